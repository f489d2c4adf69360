/-! constructors: a walk over a world that grows -/
theorem P_iff {D : va_G} {cl : List vw_C} {ws : va_W} {H : Heap} : va_P D cl ws H ↔ ∀ q ∈ ws, va_at D cl q H :=
  ⟨fun h q hq => by obtain ⟨k, hk⟩ := List.getElem?_of_mem hq; exact h k q hk, fun h k q hk => h q (List.mem_of_getElem? hk)⟩
theorem D_iff {A : Nat → Prop} {ws : va_W} : va_D A ws ↔ (ws.map Prod.fst).Nodup ∧ ∀ q ∈ ws, A q.1 := by
  refine ⟨fun h => ⟨?_, fun q hq => ?_⟩, fun h => ⟨?_, fun k q hk => h.2 q (List.mem_of_getElem? hk)⟩⟩
  · refine List.pairwise_iff_getElem.mpr (fun i j hi hj hij => ?_)
    simp only [List.length_map] at hi hj
    simp only [List.getElem_map]
    intro e
    exact absurd (h.1 i j _ _ (List.getElem?_eq_getElem hi) (List.getElem?_eq_getElem hj) e) (by omega)
  · obtain ⟨k, hk⟩ := List.getElem?_of_mem hq
    exact h.2 k q hk
  · intro i j p q hi hj e
    obtain ⟨li, ei⟩ := List.getElem?_eq_some_iff.mp hi
    obtain ⟨lj, ej⟩ := List.getElem?_eq_some_iff.mp hj
    have key := List.pairwise_iff_getElem.mp h.1
    rcases Nat.lt_trichotomy i j with z | z | z
    · have := key i j (by simpa using li) (by simpa using lj) z
      simp only [List.getElem_map, ei, ej] at this
      exact absurd e this
    · exact z
    · have := key j i (by simpa using lj) (by simpa using li) z
      simp only [List.getElem_map, ei, ej] at this
      exact absurd e.symm this
theorem P_perm {D : va_G} {cl : List vw_C} {ws ws2 : va_W} {H : Heap} (h : ws.Perm ws2) (hP : va_P D cl ws H) : va_P D cl ws2 H := P_iff.mpr (fun q hq => P_iff.mp hP q (h.mem_iff.mpr hq))
theorem D_perm {A : Nat → Prop} {ws ws2 : va_W} (h : ws.Perm ws2) (hD : va_D A ws) : va_D A ws2 :=
  D_iff.mpr ⟨(h.map Prod.fst).nodup_iff.mp (D_iff.mp hD).1, fun q hq => (D_iff.mp hD).2 q (h.mem_iff.mpr hq)⟩
theorem D_addr {A : Nat → Prop} {ws ws2 : va_W} (h : ws2.map Prod.fst = ws.map Prod.fst) (hD : va_D A ws) : va_D A ws2 := by
  obtain ⟨a, b⟩ := D_iff.mp hD
  refine D_iff.mpr ⟨by rw [h]; exact a, fun q hq => ?_⟩
  have : q.1 ∈ ws.map Prod.fst := by rw [← h]; exact List.mem_map.mpr ⟨q, hq, rfl⟩
  obtain ⟨r, hr, e⟩ := List.mem_map.mp this
  rw [← e]
  exact b r hr
theorem P_app {D : va_G} {cl : List vw_C} {w1 w2 : va_W} {H : Heap} : va_P D cl (w1 ++ w2) H ↔ va_P D cl w1 H ∧ va_P D cl w2 H :=
  ⟨fun h => ⟨P_iff.mpr (fun q hq => P_iff.mp h q (List.mem_append_left _ hq)), P_iff.mpr (fun q hq => P_iff.mp h q (List.mem_append_right _ hq))⟩, fun h => h.1.app h.2⟩
theorem D_left {A : Nat → Prop} {w1 w2 : va_W} (h : va_D A (w1 ++ w2)) : va_D A w1 := by
  obtain ⟨a, b⟩ := D_iff.mp h
  rw [List.map_append] at a
  exact D_iff.mpr ⟨(List.nodup_append.mp a).1, fun q hq => b q (List.mem_append_left _ hq)⟩
theorem D_right {A : Nat → Prop} {w1 w2 : va_W} (h : va_D A (w1 ++ w2)) : va_D A w2 := by
  obtain ⟨a, b⟩ := D_iff.mp h
  rw [List.map_append] at a
  exact D_iff.mpr ⟨(List.nodup_append.mp a).2.1, fun q hq => b q (List.mem_append_right _ hq)⟩
theorem D_join {A : Nat → Prop} {w1 w2 : va_W} (h1 : va_D A w1) (h2 : va_D A w2) (hx : ∀ p ∈ w1, ∀ q ∈ w2, p.1 ≠ q.1) : va_D A (w1 ++ w2) :=
  va_D.app h1 h2 (fun i j p q hi hj => hx p (List.mem_of_getElem? hi) q (List.mem_of_getElem? hj))
theorem S_up {A B : Nat → Prop} {H0 H : Heap} {locs : List Loc} (hAB : ∀ q, A q → B q) (h : va_S A H0 H locs) : va_S B H0 H locs := ⟨h.1, fun q a b => h.2.1 q a (fun z => b (hAB q z)), fun x hx => hAB _ (h.2.2 x hx)⟩
/-- words that no contract hands on -/
def NX (U : State) : Prop := (va_AO RX4 U ∧ va_AO RX1 U ∧ va_AO RX2 U) ∧ va_Nw (.methodLinkNest RX2 27 yX4_init "FogBellMarket") U ∧ va_Nw (.methodLinkNest RX2 28 yX1_init "FogBellMarket") U ∧ va_Nw (.methodLinkNest RX6 24 yX3_init "FogBellMarket") U
theorem NX.warm {s U : State} (hW : s.WarmedH U.vm) (h : NX s) : NX U := ⟨⟨va_AO.moved hW.alike h.1.1, va_AO.moved hW.alike h.1.2.1, va_AO.moved hW.alike h.1.2.2⟩, va_Nw.warmM hW h.2.1, va_Nw.warmM hW h.2.2.1, va_Nw.warmM hW h.2.2.2⟩
theorem NX.calling {U : State} (g' : JFrame) (mk : MethodId) (a : Array Value) (h : NX U) : NX (U.calling g' mk a) := ⟨⟨va_AO.moved (u := U) (U := U.calling g' mk a) (Vm.Alike.refl U.vm) h.1.1, va_AO.moved (u := U) (U := U.calling g' mk a) (Vm.Alike.refl U.vm) h.1.2.1, va_AO.moved (u := U) (U := U.calling g' mk a) (Vm.Alike.refl U.vm) h.1.2.2⟩, va_Nw.same rfl (u := U) rfl h.2.1, va_Nw.same rfl (u := U) rfl h.2.2.1, va_Nw.same rfl (u := U) rfl h.2.2.2⟩
theorem x_KS2.to {g : xG} {A B : Nat → Prop} {s t : State} {H : Heap} {locs : List Loc} (h : x_KS2 g A s) (h2 : va_S A s.heap H locs) (hAB : ∀ q, B q → A q) (ht : t.heap = H) (hW : s.WarmedH t.vm) : x_KS2 g B t := by
  obtain ⟨k1, k2, k3, k4, k5⟩ := h
  subst ht
  exact ⟨fun w hw => x_dw_warm hW w hw (k1 w hw), trivial, fun i q hq => vk_R.warm hW (k3 i q hq), k4, x_KA.to hW.alike h2.2.1 hAB k5⟩
theorem x_KS2.calling {g : xG} {A : Nat → Prop} {U : State} (g' : JFrame) (mk : MethodId) (a : Array Value) (h : x_KS2 g A U) : x_KS2 g A (U.calling g' mk a) := by
  obtain ⟨k1, k2, k3, k4, k5⟩ := h
  refine ⟨fun w hw => ?_, trivial, fun i q hq => vk_R.same (u := U) rfl (k3 i q hq), k4, x_KA.to (s := U) (t := U.calling g' mk a) (Vm.Alike.refl U.vm) (fun _ _ _ => rfl) (fun _ h => h) k5⟩
  have hw2 : w.onTables = true := by
    simp only [x_dw, List.mem_cons, List.not_mem_nil, or_false] at hw
    rcases hw with rfl | rfl
    all_goals rfl
  exact va_Nw.same hw2 (u := U) rfl (k1 w hw)
/-- a constructor's start: the object alone; its end: the cells that came -/
def nP (D : va_G) (g : xG) (ws : va_W) (sz : Nat) (U : State) : Prop := U.heap.size = sz ∧ va_P D xCl ws U.heap ∧ va_K D xCl (x_tys g) U ∧ NX U ∧ x_KS2 g (va_A ws sz) U
theorem n_blind {as : List Value} {D : va_G} {g : xG} {ws : va_W} {sz : Nat} : FrameBlind (va_Pc as (nP D g ws sz)) :=
  fun a U g' mk q => ⟨q.1, q.2.1, q.2.2.1, va_K.moved (u := U) (U := U.calling g' mk a) (Vm.Alike.refl U.vm) q.2.2.2.1, NX.calling g' mk a q.2.2.2.2.1, x_KS2.calling g' mk a q.2.2.2.2.2⟩
def nM (l : Launch) (D : va_G) (g : xG) (y : MethodName) (cc : ByteArray) (nL : Nat) (rm : Room) (ci : Nat) (raw : List Value) (mc ms : Nat) (Wq : Nat → va_W → Prop) : Prop :=
  ∀ h0 sz, Met l y (ws_ y cc nL none) rm (va_Pc [.ref h0] (nP D g [(h0, .inr (ci, raw))] sz)) (va_Qv (fun (_ : Unit) => True) (fun _ t => ∃ w1, Wq h0 w1 ∧ va_P D xCl w1 t.heap ∧ va_D (va_A [(h0, .inr (ci, raw))] sz) w1) (va_A [(h0, .inr (ci, raw))] sz)) mc ms (va_A [(h0, .inr (ci, raw))] sz)
def NC (p : Program) (s : State) (m : MethodId) (args : Array Value) (c : Code) (cc : ByteArray) (nL : Nat) (own : String) (D : va_G) (g : xG) (A : Nat → Prop) : Prop :=
  p.tables.exec = Jvm.exec ∧ c.code = cc ∧ c.maxLocals = nL ∧ s.vm.findClass own = some m.cls ∧ (∀ w ∈ xA, w.before args s = true) ∧ va_K D xCl (x_tys g) s ∧ NX s ∧ (∀ q, s.heap.size ≤ q → A q) ∧ x_KS2 g A s
def WN (p : Program) (l : Launch) (e : Env) (R : Room) (s : State) (m : MethodId) (args : Array Value) (below : List Frame) (meth : Method) (c : Code) (cells slots : Nat) (Q : State → Prop) (nL : Nat) (D : va_G) (A : Nat → Prop) (pc : Nat) (lv : List (Nat × Value)) (st : List Value) (ws : va_W) : Prop :=
  ∀ (H : Heap) (locs : List Loc) (ls : Array Slot), va_P D xCl ws H → va_D A ws → va_S A s.heap H locs → lv_has ls nL lv → W p l e R s m args below meth c H locs cells slots Q (F0 m pc ls st)
theorem n_start {l : Launch} {D : va_G} {g : xG} {y : MethodName} {cc : ByteArray} {nL : Nat} {rm : Room} {ci : Nat} {raw : List Value} {mc ms : Nat} {Wq : Nat → va_W → Prop} {own : String} (hy : plainName y.cls = true) (hown' : y.cls = own) (hin : y.name = "<init>") (hln : 1 ≤ nL)
    (body : ∀ (p : Program) (e : Env) (s : State) (m : MethodId) (args : Array Value) (below : List Frame) (meth : Method) (c : Code) (h0 : Nat) (A : Nat → Prop) (Q : State → Prop), NC p s m args c cc nL own D g A → (∀ q, q = h0 → A q) → (∀ q, A q → q = h0 ∨ s.heap.size ≤ q) → meth.name = "<init>" →
      (∀ {pc : Nat} {lv : List (Nat × Value)} {ws w1 : va_W}, Wq h0 w1 → (∀ H, va_P D xCl ws H → va_P D xCl w1 H) → (va_D A ws → va_D A w1) → decode cc pc = .ok (.return_, 1) → WN p l e rm s m args below meth c mc ms Q nL D A pc lv [] ws) → WN p l e rm s m args below meth c 0 0 Q nL D A 0 [(0, .ref h0)] [] [(h0, .inr (ci, raw))]) : nM l D g y cc nL rm ci raw mc ms Wq := by
  intro h0 sz
  refine Met.ofW (cc := cc) (maxL := nL) (ret := none) hy rfl ?_
  intro p e s m args below meth c s₁ B hml hv
  obtain ⟨rfl, hsz, hP, hK, hN, hKS⟩ := hv
  subst hsz
  have hts0 := atoms_spec (ws := ws_ y cc nL none) B.pre
  have hts : ∀ w ∈ xA, w.before ([.ref h0] : List Value).toArray s = true := fun w h => hts0 w (List.mem_cons_of_mem _ h)
  have hown : s.vm.findClass own = some m.cls := by rw [← hown']; exact findClass_of_methodNamed B.named
  have hn : meth.name = "<init>" := ((name_of_methodNamed B.named B.method).1).trans hin
  have hl := lv_entry ([.ref h0] : List Value) (n := nL) hln
  rw [lg_entry_eq]
  have C0 : NC p s m ([.ref h0] : List Value).toArray c cc nL own D g (va_A [(h0, .inr (ci, raw))] s.heap.size) := ⟨B.exec, B.bytes, hml, hown, hts, hK, hN, fun q h => Or.inr h, hKS⟩
  have hD : va_D (va_A [(h0, (.inr (ci, raw) : va_E))] s.heap.size) [(h0, .inr (ci, raw))] := D_iff.mpr ⟨by simp, fun q hq => by
    rw [List.mem_singleton] at hq
    subst hq
    exact Or.inl ⟨0, _, rfl⟩⟩
  refine body p e s m _ below meth c h0 _ _ C0 (fun q hq => by subst hq; exact Or.inl ⟨0, _, rfl⟩) (fun q hq => ?_) hn (fun {pc lv ws w1} hw hPw hDw hd => ?_) s.heap [] _ hP hD va_S.rf hl
  · rcases hq with ⟨k, e, hk⟩ | hq
    · have := List.mem_of_getElem? hk
      rw [List.mem_singleton] at this
      cases this
      exact Or.inl rfl
    · exact Or.inr hq
  · intro H locs ls h1 h2 h3 h4
    exact W.vret B.exec B.bytes B.returns (fun t ht hW => ⟨⟨(), rfl, trivial, w1, hw, by rw [ht]; exact hPw H h1, hDw h2⟩, h3.F ht⟩) h3.2.2 hd B.notSynchronized
section XN
variable {p : Program} {l : Launch} {e : Env} {R : Room} {s : State} {m : MethodId} {args : Array Value} {below : List Frame} {meth : Method} {c : Code} {cells slots : Nat} {Q : State → Prop}
variable {cc : ByteArray} {nL : Nat} {own : String} {D : va_G} {g : xG} {A : Nat → Prop} {pc : Nat} {lv : List (Nat × Value)} {st : List Value} {ws : va_W}
theorem WN.perm {ws2 : va_W} (h : ws.Perm ws2) (k : WN p l e R s m args below meth c cells slots Q nL D A pc lv st ws2) : WN p l e R s m args below meth c cells slots Q nL D A pc lv st ws := fun H locs ls h1 h2 h3 h4 => k H locs ls (P_perm h h1) (D_perm h h2) h3 h4
theorem WN.sub {lv2 : List (Nat × Value)} (ks : List Nat) (hl : lv_pick lv ks = lv2) (k : WN p l e R s m args below meth c cells slots Q nL D A pc lv2 st ws) : WN p l e R s m args below meth c cells slots Q nL D A pc lv st ws := fun H locs ls h1 h2 h3 h4 => k H locs ls h1 h2 h3 (lv_sub h4 ks hl)
theorem WN.widen {k n : Nat} (h1 : cells ≤ k) (h2 : slots ≤ n) (kk : WN p l e R s m args below meth c k n Q nL D A pc lv st ws) : WN p l e R s m args below meth c cells slots Q nL D A pc lv st ws := fun H locs ls a b d f => W.widen h1 h2 (kk H locs ls a b d f)
theorem n_iconst (C0 : NC p s m args c cc nL own D g A) {n : Int} {v : Int32} (hv : Int32.ofInt n = v) (hd : decode cc pc = .ok (.iconst n, 1)) (k : WN p l e R s m args below meth c cells slots Q nL D A (pc + 1) lv (.int v :: st) ws) : WN p l e R s m args below meth c cells slots Q nL D A pc lv st ws := fun H locs ls h1 h2 h3 h4 => lv_iconst C0.1 C0.2.1 hd hv (k H locs ls h1 h2 h3 h4)
theorem n_bipush (C0 : NC p s m args c cc nL own D g A) {n : Int} {v : Int32} (hv : (Int8.ofInt n).toInt32 = v) (hd : decode cc pc = .ok (.bipush n, 2)) (k : WN p l e R s m args below meth c cells slots Q nL D A (pc + 2) lv (.int v :: st) ws) : WN p l e R s m args below meth c cells slots Q nL D A pc lv st ws := fun H locs ls h1 h2 h3 h4 => lv_bipush C0.1 C0.2.1 hd hv (k H locs ls h1 h2 h3 h4)
theorem n_sipush (C0 : NC p s m args c cc nL own D g A) {n : Int} {v : Int32} (hv : (Int16.ofInt n).toInt32 = v) (hd : decode cc pc = .ok (.sipush n, 3)) (k : WN p l e R s m args below meth c cells slots Q nL D A (pc + 3) lv (.int v :: st) ws) : WN p l e R s m args below meth c cells slots Q nL D A pc lv st ws := fun H locs ls h1 h2 h3 h4 => lv_sipush C0.1 C0.2.1 hd hv (k H locs ls h1 h2 h3 h4)
theorem n_aload_n (C0 : NC p s m args c cc nL own D g A) {kk : Fin 4} {x : Nat} (j : Nat) (hj : lv[j]? = some ((kk : Nat), .ref x)) (hd : decode cc pc = .ok (.aload_n kk, 1)) (k : WN p l e R s m args below meth c cells slots Q nL D A (pc + 1) lv (.ref x :: st) ws) : WN p l e R s m args below meth c cells slots Q nL D A pc lv st ws := fun H locs ls h1 h2 h3 h4 => lv_aload_n C0.1 C0.2.1 hd rfl (lv_at h4 j hj) (k H locs ls h1 h2 h3 h4)
theorem n_iload_n (C0 : NC p s m args c cc nL own D g A) {kk : Fin 4} {x : Int32} (j : Nat) (hj : lv[j]? = some ((kk : Nat), .int x)) (hd : decode cc pc = .ok (.iload_n kk, 1)) (k : WN p l e R s m args below meth c cells slots Q nL D A (pc + 1) lv (.int x :: st) ws) : WN p l e R s m args below meth c cells slots Q nL D A pc lv st ws := fun H locs ls h1 h2 h3 h4 => lv_iload_n C0.1 C0.2.1 hd rfl (lv_at h4 j hj) (k H locs ls h1 h2 h3 h4)
theorem n_istore_n (C0 : NC p s m args c cc nL own D g A) {kk : Fin 4} {x : Int32} {lv2 : List (Nat × Value)} (hn : (kk : Nat) < nL) (hl : ((kk : Nat), Value.int x) :: lv.filter (fun q => !(q.1 == (kk : Nat)) && !(q.1 + 1 == (kk : Nat) && q.2.category == 2)) = lv2) (hd : decode cc pc = .ok (.istore_n kk, 1)) (k : WN p l e R s m args below meth c cells slots Q nL D A (pc + 1) lv2 st ws) : WN p l e R s m args below meth c cells slots Q nL D A pc lv (.int x :: st) ws := fun H locs ls h1 h2 h3 h4 => lv_istore_n C0.1 C0.2.1 hd rfl h4 hn hl (fun ls2 h5 => k H locs ls2 h1 h2 h3 h5)
theorem n_astore_n (C0 : NC p s m args c cc nL own D g A) {kk : Fin 4} {x : Nat} {lv2 : List (Nat × Value)} (hn : (kk : Nat) < nL) (hl : ((kk : Nat), Value.ref x) :: lv.filter (fun q => !(q.1 == (kk : Nat)) && !(q.1 + 1 == (kk : Nat) && q.2.category == 2)) = lv2) (hd : decode cc pc = .ok (.astore_n kk, 1)) (k : WN p l e R s m args below meth c cells slots Q nL D A (pc + 1) lv2 st ws) : WN p l e R s m args below meth c cells slots Q nL D A pc lv (.ref x :: st) ws := fun H locs ls h1 h2 h3 h4 => lv_astore_n C0.1 C0.2.1 hd rfl h4 hn hl (fun ls2 h5 => k H locs ls2 h1 h2 h3 h5)
theorem n_iinc (C0 : NC p s m args c cc nL own D g A) {i : Nat} {n : Int} {x v : Int32} {lv2 : List (Nat × Value)} (j : Nat) (hj : lv[j]? = some (i, .int x)) (hv : x + Int32.ofInt n = v) (hn : i < nL) (hl : (i, Value.int v) :: lv.filter (fun q => !(q.1 == i) && !(q.1 + 1 == i && q.2.category == 2)) = lv2) (hd : decode cc pc = .ok (.iinc i n, 3)) (k : WN p l e R s m args below meth c cells slots Q nL D A (pc + 3) lv2 st ws) : WN p l e R s m args below meth c cells slots Q nL D A pc lv st ws := fun H locs ls h1 h2 h3 h4 => lv_iinc C0.1 C0.2.1 hd h4 hj hv hn hl (fun ls2 h5 => k H locs ls2 h1 h2 h3 h5)
theorem n_goto (C0 : NC p s m args c cc nL own D g A) {off : Int} {tgt : Nat} (ht : (pc : Int) + off = (tgt : Int)) (hd : decode cc pc = .ok (.goto off, 3)) (k : WN p l e R s m args below meth c cells slots Q nL D A tgt lv st ws) : WN p l e R s m args below meth c cells slots Q nL D A pc lv st ws := fun H locs ls h1 h2 h3 h4 => lv_goto C0.1 C0.2.1 hd ht (k H locs ls h1 h2 h3 h4)
theorem n_dup (C0 : NC p s m args c cc nL own D g A) {v : Value} (hv : v.category = 1) (hd : decode cc pc = .ok (.dup, 1)) (k : WN p l e R s m args below meth c cells slots Q nL D A (pc + 1) lv (v :: v :: st) ws) : WN p l e R s m args below meth c cells slots Q nL D A pc lv (v :: st) ws := fun H locs ls h1 h2 h3 h4 => lv_dup C0.1 C0.2.1 hd hv (k H locs ls h1 h2 h3 h4)
theorem n_icmp_ge (C0 : NC p s m args c cc nL own D g A) {x y : Int32} {off : Int} {tgt : Nat} (ht : (pc : Int) + off = (tgt : Int)) (hd : decode cc pc = .ok (.if_icmp .ge off, 3)) (k1 : (y ≤ x) → WN p l e R s m args below meth c cells slots Q nL D A tgt lv st ws) (k2 : ¬ (y ≤ x) → WN p l e R s m args below meth c cells slots Q nL D A (pc + 3) lv st ws) : WN p l e R s m args below meth c cells slots Q nL D A pc lv (.int y :: .int x :: st) ws := fun H locs ls h1 h2 h3 h4 => lv_icmp_ge C0.1 C0.2.1 hd ht (fun q => k1 q H locs ls h1 h2 h3 h4) (fun q => k2 q H locs ls h1 h2 h3 h4)
theorem n_obj (C0 : NC p s m args c cc nL own D g A) {idx a : Nat} (w1 : Cond.methodLink own idx objectInit ∈ xA) (w2 : Cond.instanceMethod objectInit ∈ xA) (w3 : Cond.code objectInit ⟨#[0xb1]⟩ 1 none ∈ xA) (hf : 1 ≤ R.frames) (hlo : (st.map fun v => v.category).sum + 12 ≤ R.locals) (hd : decode cc pc = .ok (.invokespecial idx, 3)) (k : WN p l e R s m args below meth c cells slots Q nL D A (pc + 3) lv st ws) : WN p l e R s m args below meth c cells slots Q nL D A pc lv (.ref a :: st) ws := fun H locs ls h1 h2 h3 h4 => by
  refine W.objInit C0.1 C0.2.1 C0.2.2.2.1 (C0.2.2.2.2.1 _ w1) (C0.2.2.2.2.1 _ w2) (C0.2.2.2.2.1 _ w3) rfl (by rw [C0.2.2.1]; exact h4.1) rfl hd hf ?_ ?_
  · simpa [F0] using hlo
  · exact W.eq (g2 := F0 m (pc + 3) ls st) rfl (k H locs ls h1 h2 h3 h4)
theorem n_get (C0 : NC p s m args c cc nL own D g A) {C : String} {T : u_T} {N ci index a q0 : Nat} {ref : String} {fs : List Value} (hin : ∀ w ∈ u_ws C T N, w ∈ xA) (he : ws[q0]? = some (a, .inr (ci, fs))) (hc : xCl[ci]? = some (C, T, N)) (j : Nat) (hj : j < N) (hw : Cond.fieldLink own index ref (T j).2.1 (T j).2.2.1 ∈ xA) (hsame : (T j).1 = ref) {v : Value} (hv : fs[j]? = some v) (hd : decode cc pc = .ok (.getfield index, 3)) (k : WN p l e R s m args below meth c cells slots Q nL D A (pc + 3) lv (v :: st) ws) : WN p l e R s m args below meth c cells slots Q nL D A pc lv (.ref a :: st) ws := fun H locs ls h1 h2 h3 h4 =>
  va_get C0.1 C0.2.1 C0.2.2.2.2.1 hin C0.2.2.2.1 C0.2.2.2.2.2.1 h1 q0 he hc j hj (C0.2.2.2.2.1 _ hw) (fun x h => by rw [← hsame]; exact h) hv hd (k H locs ls h1 h2 h3 h4)
theorem n_put (C0 : NC p s m args c cc nL own D g A) {C : String} {T : u_T} {N ci index a q0 : Nat} {ref : String} {fs : List Value} (hin : ∀ w ∈ u_ws C T N, w ∈ xA) (ty0 : Nat → FieldType) (hty : ∀ k, k < N → parseFieldDescriptor (T k).2.2.1 = some (ty0 k)) (hnm : ∀ a, a < N → ∀ b, b < N → a ≠ b → (T a).2.1 ≠ (T b).2.1) (he : ws[q0]? = some (a, .inr (ci, fs))) (hc : xCl[ci]? = some (C, T, N)) (j : Nat) (hj : j < N) (hw : Cond.fieldLink own index ref (T j).2.1 (T j).2.2.1 ∈ xA) (hsame : (T j).1 = ref) (hfin : (T j).2.2.2 = false) {v : Value} (hn : narrow (ty0 j) v = v) (hfit : fits (ty0 j) v = true) (hl : j < fs.length) (hd : decode cc pc = .ok (.putfield index, 3)) (k : WN p l e R s m args below meth c cells slots Q nL D A (pc + 3) lv st (ws.set q0 (a, .inr (ci, fs.set j v)))) : WN p l e R s m args below meth c cells slots Q nL D A pc lv (v :: .ref a :: st) ws := fun H locs ls h1 h2 h3 h4 =>
  va_put C0.1 C0.2.1 C0.2.2.2.2.1 hin ty0 hty hnm C0.2.2.2.1 C0.2.2.2.2.2.1 h1 h2 h3 q0 he hc j hj (C0.2.2.2.2.1 _ hw) (fun x h => by rw [← hsame]; exact h) hfin (hty j hj) hn hfit hl hd (fun H1 locs1 hP hD hS => k H1 locs1 ls hP hD hS h4)
theorem n_putF (C0 : NC p s m args c cc nL own D g A) {C : String} {T : u_T} {N ci index a q0 : Nat} {ref : String} {fs : List Value} (hin : ∀ w ∈ u_ws C T N, w ∈ xA) (ty0 : Nat → FieldType) (hty : ∀ k, k < N → parseFieldDescriptor (T k).2.2.1 = some (ty0 k)) (hnm : ∀ a, a < N → ∀ b, b < N → a ≠ b → (T a).2.1 ≠ (T b).2.1) (he : ws[q0]? = some (a, .inr (ci, fs))) (hc : xCl[ci]? = some (C, T, N)) (j : Nat) (hj : j < N) (hw : Cond.fieldLink own index ref (T j).2.1 (T j).2.2.1 ∈ xA) (hsame : (T j).1 = ref) (hfin : (T j).2.2.2 = true) (hin2 : meth.name = "<init>") (hdecl : (T j).1 = own) {v : Value} (hn : narrow (ty0 j) v = v) (hfit : fits (ty0 j) v = true) (hl : j < fs.length) (hd : decode cc pc = .ok (.putfield index, 3)) (k : WN p l e R s m args below meth c cells slots Q nL D A (pc + 3) lv st (ws.set q0 (a, .inr (ci, fs.set j v)))) : WN p l e R s m args below meth c cells slots Q nL D A pc lv (v :: .ref a :: st) ws := fun H locs ls h1 h2 h3 h4 =>
  va_putF C0.1 C0.2.1 C0.2.2.2.2.1 hin ty0 hty hnm C0.2.2.2.1 C0.2.2.2.2.2.1 h1 h2 h3 q0 he hc j hj (C0.2.2.2.2.1 _ hw) (fun x h => by rw [← hsame]; exact h) hfin hin2 hdecl (hty j hj) hn hfit hl hd (fun H1 locs1 hP hD hS => k H1 locs1 ls hP hD hS h4)
theorem n_alen (C0 : NC p s m args c cc nL own D g A) {a q0 t0 n : Nat} {x : (Nat → Int32) ⊕ (Nat → Int64) ⊕ (Nat → UInt32) ⊕ (Nat → UInt64) ⊕ (Nat → Option Nat)} {ty : FieldType} {cA : ClassId} (he : ws[q0]? = some (a, .inl (cA, n, x))) (ht : (x_tys g)[t0]? = some (cA, ty)) {v : Int32} (hv : Int32.ofNat n = v) (hd : decode cc pc = .ok (.arraylength, 1)) (k : WN p l e R s m args below meth c cells slots Q nL D A (pc + 1) lv (.int v :: st) ws) : WN p l e R s m args below meth c cells slots Q nL D A pc lv (.ref a :: st) ws := fun H locs ls h1 h2 h3 h4 =>
  va_alen C0.1 C0.2.1 C0.2.2.2.2.2.1 h1 q0 t0 he ht hv hd (k H locs ls h1 h2 h3 h4)
theorem n_newi (C0 : NC p s m args c cc nL own D g A) (t0 : Nat) {atype : ArrayType} {ty : FieldType} (hty : newarray.typeOf atype = ty) {cA0 : ClassId} (ht : (x_tys g)[t0]? = some (cA0, ty)) (hra : ∀ U cA, va_RA U cA ty → U.vm.findClass ("[" ++ ty.toString) = some cA) (hw : Cond.arrayClass ty ∈ xA) {n : Int32} {N : Nat} (hdef : defaultValue ty = .int 0) (hn : ¬ n < 0) (hN : n.toNatClampNeg = N) (hbytes : N * componentBytes ty ≤ 536870912) (hc : cells + 1 ≤ R.cells) (hs : slots + N ≤ R.slots) (hd : decode cc pc = .ok (.newarray atype, 2))
    (k : ∀ q, WN p l e R s m args below meth c (cells + 1) (slots + N) Q nL D A (pc + 2) lv (.ref q :: st) (ws ++ [(q, .inl (cA0, N, .inl (fun _ => 0)))])) : WN p l e R s m args below meth c cells slots Q nL D A pc lv (.int n :: st) ws := fun H locs ls h1 h2 h3 h4 => by
  subst hty
  refine va_newa (a0 := (N, .inl (fun _ => 0))) C0.1 C0.2.1 (C0.2.2.2.2.1 _ hw) rfl C0.2.2.2.2.2.1 h1 h2 h3 C0.2.2.2.2.2.2.2.1 (fun cA => by rw [hdef]; rfl) hn hN hbytes hc hs hd (fun q cA H1 hK hP hD hS => ?_)
  have e1 := hra s cA (hK.2 (x_tys g).length (cA, newarray.typeOf atype) (by simp)).2
  have e2 := hra s cA0 (C0.2.2.2.2.2.1.2 t0 _ ht).2
  have e : cA = cA0 := Option.some.inj (e1.symm.trans e2)
  subst e
  exact k q H1 locs ls hP hD hS h4
theorem n_newq (C0 : NC p s m args c cc nL own D g A) (t0 : Nat) {C : String} {index : Nat} {cA0 : ClassId} (ht : (x_tys g)[t0]? = some (cA0, .object C)) (hw : Cond.classLink own index C ∈ xA) (hover : va_AO C s) {n : Int32} {N : Nat} (hn : ¬ n < 0) (hN : n.toNatClampNeg = N) (hbytes : N * 4 ≤ 536870912) (hc : cells + 1 ≤ R.cells) (hs : slots + N ≤ R.slots) (hd : decode cc pc = .ok (.anewarray index, 3))
    (k : ∀ q, WN p l e R s m args below meth c (cells + 1) (slots + N) Q nL D A (pc + 3) lv (.ref q :: st) (ws ++ [(q, .inl (cA0, N, .inr (.inr (.inr (.inr (fun _ => none))))))])) : WN p l e R s m args below meth c cells slots Q nL D A pc lv (.int n :: st) ws := fun H locs ls h1 h2 h3 h4 => by
  refine va_newq C0.1 C0.2.1 C0.2.2.2.1 (C0.2.2.2.2.1 _ hw) hover C0.2.2.2.2.2.1 h1 h2 h3 C0.2.2.2.2.2.2.2.1 hn hN hbytes hc hs hd (fun q cA H1 hK hP hD hS => ?_)
  obtain ⟨kA1, cp1, -, -, -, e1⟩ := (hK.2 (x_tys g).length (cA, .object C) (by simp)).2
  obtain ⟨kA2, cp2, -, -, -, e2⟩ := (C0.2.2.2.2.2.1.2 t0 _ ht).2
  have e : cA = cA0 := Option.some.inj (e1.symm.trans e2)
  subst e
  exact k q H1 locs ls hP hD hS h4
theorem n_astq (C0 : NC p s m args c cc nL own D g A) {a q0 t0 ci n v : Nat} {cA : ClassId} {r : vw_C} {vs : List Value} {f : Nat → Option Nat} (ha : ws[q0]? = some (a, .inl (cA, n, .inr (.inr (.inr (.inr f)))))) (ht : (x_tys g)[t0]? = some (cA, .object r.1)) (hv : (v, .inr (ci, vs)) ∈ ws) (hc : xCl[ci]? = some r) {i : Int32} (hin : vp_in i n) (hd : decode cc pc = .ok (.aastore, 1))
    (k : WN p l e R s m args below meth c cells slots Q nL D A (pc + 1) lv st (ws.set q0 (a, .inl (cA, n, .inr (.inr (.inr (.inr (va_up f i.toNatClampNeg (some v))))))))) : WN p l e R s m args below meth c cells slots Q nL D A pc lv (.ref v :: .int i :: .ref a :: st) ws := fun H locs ls h1 h2 h3 h4 => by
  obtain ⟨qk, hqk⟩ := List.getElem?_of_mem hv
  exact va_astq C0.1 C0.2.1 C0.2.2.2.2.2.1 h1 h2 h3 q0 t0 qk ci ha ht hqk hc hin hd (fun H1 locs1 hP hD hS => k H1 locs1 ls hP hD hS h4)
theorem n_make (C0 : NC p s m args c cc nL own D g A) {y : MethodName} {bytes : ByteArray} {nLy i1 i2 ci mc ms N : Nat} {rm : Room} {raw : List Value} {C : String} {T : u_T} {Wq : Nat → va_W → Prop} (hM : nM l D g y bytes nLy rm ci raw mc ms Wq)
    (hin : ∀ w ∈ u_ws C T N, w ∈ xA) (ty : Nat → FieldType) (hty : ∀ k, k < N → parseFieldDescriptor (T k).2.2.1 = some (ty k)) (hc : xCl[ci]? = some (C, T, N)) (hfs : ∀ j, j < N → defaultValue (ty j) = vp_V raw j)
    (wc : Cond.classLink own i1 C ∈ xA) (wi : Cond.instantiable C N ∈ xA) (wz : Cond.initialized C ∈ xA) (w1 : Cond.methodLink own i2 y ∈ xA) (w2 : Cond.instanceMethod y ∈ xA) (w3 : Cond.initialized y.cls ∈ xA) (w5 : Cond.code y bytes nLy none ∈ xA) (hyn : y.name = "<init>")
    (hdd : y.cls ≠ "java/lang/invoke/MethodHandle" ∧ y.cls ≠ "java/lang/invoke/VarHandle" ∧ (parseMethodDescriptor y.desc).map (fun d => d.parameters.length) = some 0) (hrm : rm.cells = mc ∧ rm.slots = ms) (hR : rm.frames + 1 ≤ R.frames ∧ 8 + (nLy + 11) + rm.locals ≤ R.locals) (hfc : cells + 1 + mc ≤ R.cells) (hfs2 : slots + N + ms ≤ R.slots) (hcat : ((st.map fun v => v.category).sum + 1) ≤ 8)
    (d0 : decode cc pc = .ok (.new i1, 3)) (d1 : decode cc (pc + 3) = .ok (.dup, 1)) (d2 : decode cc (pc + 3 + 1) = .ok (.invokespecial i2, 3))
    (k : ∀ q w1, Wq q w1 → WN p l e R s m args below meth c (cells + 1 + mc) (slots + N + ms) Q nL D A (pc + 7) lv (.ref q :: st) (ws ++ w1)) : WN p l e R s m args below meth c cells slots Q nL D A pc lv st ws := fun H locs ls h1 h2 h3 h4 => by
  obtain ⟨hx, hb, hml, hown, hts, hK, hNX, hA, hKS⟩ := C0
  refine va_new hx hb hts hin ty hty hown (hts _ wc) (hts _ wi) (hts _ wz) hK h1 h2 h3 hA hc hfs (Nat.le_trans (Nat.le_add_right _ _) hfc) (Nat.le_trans (Nat.le_add_right _ _) hfs2) d0 (fun q H1 hP hD hS => ?_)
  refine lv_dup hx hb d1 rfl ?_
  have hP1 := (P_app.mp hP).1
  have hPq := (P_app.mp hP).2
  have hD1 := D_left hD
  have hAq : ∀ z, va_A [(q, .inr (ci, raw))] H1.size z → A z := by
    intro z hz
    rcases hz with ⟨kk, ee, hk⟩ | hz
    · have := List.mem_of_getElem? hk
      rw [List.mem_singleton] at this
      cases this
      exact (D_iff.mp hD).2 _ (List.mem_append_right _ List.mem_cons_self)
    · exact hA z (Nat.le_trans hS.1 hz)
  have hne : ∀ z ∈ ws, z.1 < H1.size ∧ ¬ va_A [(q, .inr (ci, raw))] H1.size z.1 := by
    intro z hz
    obtain ⟨kz, hkz⟩ := List.getElem?_of_mem hz
    have hlt : z.1 < H1.size := (hP1 kz z hkz).lt
    refine ⟨hlt, fun h => ?_⟩
    rcases h with ⟨kk, ee, hk⟩ | h
    · have := List.mem_of_getElem? hk
      rw [List.mem_singleton] at this
      cases this
      have hnd := (D_iff.mp hD).1
      rw [List.map_append, List.nodup_append] at hnd
      exact hnd.2.2 z.1 (List.mem_map.mpr ⟨z, hz, rfl⟩) z.1 (by simp) rfl
    · omega
  refine va_callv (va_runI (As := []) (rest := .ref q :: st) ⟨hx, hb, hml, hown, hts⟩ (hM q H1.size) (cwI 0 hts (x_good [] (fun w h => absurd h List.not_mem_nil) w5) rfl hrm.1 hrm.2 (hts _ w3) (hts _ w1) (hts _ w2) hyn hdd hR) ⟨n_blind, fun U hU hW => ⟨rfl, by rw [hU], by rw [hU]; exact hPq, va_K.moved hW.alike hK, NX.warm hW hNX, x_KS2.to hKS hS hAq hU hW⟩⟩ rfl rfl h4.1 rfl (lv_room ?_) d2 ⟨hfc, hfs2⟩) hS (fun z _ h => hAq z h) (fun z h => hAq z h) (fun u t H2 locs2 ht hvm hw hB hz1 hk1 hS2 => ?_)
  · simpa [Value.category, Nat.add_comm] using hcat
  · obtain ⟨w1, hw1, hPw, hDw⟩ := hB
    rw [ht] at hPw
    refine k q w1 hw1 H2 locs2 ls (P_app.mpr ⟨P_iff.mpr (fun z hz => ?_), hPw⟩) (D_join hD1 (hDw.weaken (fun _ z _ h => hAq z.1 h)) (fun z hz z2 hz2 e => ?_)) hS2 h4
    · exact (P_iff.mp hP1 z hz).kept (hk1 z.1 (hne z hz).1 (hne z hz).2)
    · refine (hne z hz).2 ?_
      rw [e]
      exact (D_iff.mp hDw).2 z2 hz2
theorem n_makeN (C0 : NC p s m args c cc nL own D g A) {y : MethodName} {bytes : ByteArray} {nLy i1 i2 ci mc ms N : Nat} {rm : Room} {raw : List Value} {C : String} {T : u_T} {Wq : Nat → va_W → Prop} (hM : nM l D g y bytes nLy rm ci raw mc ms Wq)
    (hin : ∀ w ∈ u_ws C T N, w ∈ xA) (ty : Nat → FieldType) (hty : ∀ k, k < N → parseFieldDescriptor (T k).2.2.1 = some (ty k)) (hc : xCl[ci]? = some (C, T, N)) (hfs : ∀ j, j < N → defaultValue (ty j) = vp_V raw j)
    (wc : Cond.classLink own i1 C ∈ xA) (wi : Cond.instantiable C N ∈ xA) (wz : Cond.initialized C ∈ xA) {host : String} (w1 : va_Nw (.methodLinkNest own i2 y host) s) (w2 : Cond.instanceMethod y ∈ xA) (w3 : Cond.initialized y.cls ∈ xA) (w5 : Cond.code y bytes nLy none ∈ xA) (hyn : y.name = "<init>")
    (hdd : y.cls ≠ "java/lang/invoke/MethodHandle" ∧ y.cls ≠ "java/lang/invoke/VarHandle" ∧ (parseMethodDescriptor y.desc).map (fun d => d.parameters.length) = some 0) (hrm : rm.cells = mc ∧ rm.slots = ms) (hR : rm.frames + 1 ≤ R.frames ∧ 8 + (nLy + 11) + rm.locals ≤ R.locals) (hfc : cells + 1 + mc ≤ R.cells) (hfs2 : slots + N + ms ≤ R.slots) (hcat : ((st.map fun v => v.category).sum + 1) ≤ 8)
    (d0 : decode cc pc = .ok (.new i1, 3)) (d1 : decode cc (pc + 3) = .ok (.dup, 1)) (d2 : decode cc (pc + 3 + 1) = .ok (.invokespecial i2, 3))
    (k : ∀ q w1, Wq q w1 → WN p l e R s m args below meth c (cells + 1 + mc) (slots + N + ms) Q nL D A (pc + 7) lv (.ref q :: st) (ws ++ w1)) : WN p l e R s m args below meth c cells slots Q nL D A pc lv st ws := fun H locs ls h1 h2 h3 h4 => by
  obtain ⟨hx, hb, hml, hown, hts, hK, hNX, hA, hKS⟩ := C0
  refine va_new hx hb hts hin ty hty hown (hts _ wc) (hts _ wi) (hts _ wz) hK h1 h2 h3 hA hc hfs (Nat.le_trans (Nat.le_add_right _ _) hfc) (Nat.le_trans (Nat.le_add_right _ _) hfs2) d0 (fun q H1 hP hD hS => ?_)
  refine lv_dup hx hb d1 rfl ?_
  have hP1 := (P_app.mp hP).1
  have hPq := (P_app.mp hP).2
  have hD1 := D_left hD
  have hAq : ∀ z, va_A [(q, .inr (ci, raw))] H1.size z → A z := by
    intro z hz
    rcases hz with ⟨kk, ee, hk⟩ | hz
    · have := List.mem_of_getElem? hk
      rw [List.mem_singleton] at this
      cases this
      exact (D_iff.mp hD).2 _ (List.mem_append_right _ List.mem_cons_self)
    · exact hA z (Nat.le_trans hS.1 hz)
  have hne : ∀ z ∈ ws, z.1 < H1.size ∧ ¬ va_A [(q, .inr (ci, raw))] H1.size z.1 := by
    intro z hz
    obtain ⟨kz, hkz⟩ := List.getElem?_of_mem hz
    have hlt : z.1 < H1.size := (hP1 kz z hkz).lt
    refine ⟨hlt, fun h => ?_⟩
    rcases h with ⟨kk, ee, hk⟩ | h
    · have := List.mem_of_getElem? hk
      rw [List.mem_singleton] at this
      cases this
      have hnd := (D_iff.mp hD).1
      rw [List.map_append, List.nodup_append] at hnd
      exact hnd.2.2 z.1 (List.mem_map.mpr ⟨z, hz, rfl⟩) z.1 (by simp) rfl
    · omega
  refine va_callv (va_runIN (As := []) (rest := .ref q :: st) ⟨hx, hb, hml, hown, hts⟩ (hM q H1.size) (⟨va_cnB 0 hts (x_good [] (fun w h => absurd h List.not_mem_nil) w5) rfl hrm.1 hrm.2 w1 (hts _ w3) hdd hR, hyn, hts _ w2⟩) ⟨n_blind, fun U hU hW => ⟨rfl, by rw [hU], by rw [hU]; exact hPq, va_K.moved hW.alike hK, NX.warm hW hNX, x_KS2.to hKS hS hAq hU hW⟩⟩ rfl rfl h4.1 rfl (lv_room ?_) d2 ⟨hfc, hfs2⟩) hS (fun z _ h => hAq z h) (fun z h => hAq z h) (fun u t H2 locs2 ht hvm hw hB hz1 hk1 hS2 => ?_)
  · simpa [Value.category, Nat.add_comm] using hcat
  · obtain ⟨w1, hw1, hPw, hDw⟩ := hB
    rw [ht] at hPw
    refine k q w1 hw1 H2 locs2 ls (P_app.mpr ⟨P_iff.mpr (fun z hz => ?_), hPw⟩) (D_join hD1 (hDw.weaken (fun _ z _ h => hAq z.1 h)) (fun z hz z2 hz2 e => ?_)) hS2 h4
    · exact (P_iff.mp hP1 z hz).kept (hk1 z.1 (hne z hz).1 (hne z hz).2)
    · refine (hne z hz).2 ?_
      rw [e]
      exact (D_iff.mp hDw).2 z2 hz2
end XN
