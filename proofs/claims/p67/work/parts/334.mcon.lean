/-! texts beside a world; contracts of methods that hold cells and make some; their calls -/
abbrev xS : Type := Nat × Nat × Nat × (Nat → Int32)
/-- a text that is only read: the string, its bytes' array, how many, which -/
def sF (q : xS) (A : Nat → Prop) (U : State) (H : Heap) : Prop := va_O RJ0 q.1 A U H ∧ va_OF RJ0 "coder" "B" (.int 0) q.1 A U H ∧ va_OF RJ0 "value" "[B" (.ref q.2.1) q.1 A U H ∧ va_T .byte q.2.1 q.2.2.1 (fun j => .int (q.2.2.2 j)) A U H
def sE (o : Option xS) (A : Nat → Prop) (U : State) (H : Heap) : Prop := ∀ q, o = some q → sF q A U H
theorem sF.to {q : xS} {A B : Nat → Prop} {s t : State} {H H1 : Heap} (hm : s.vm.Alike t.vm) (hq : ∀ a : Nat, a < H.size → ¬ A a → H1[a]? = H[a]?) (hAB : ∀ q, B q → A q) (h : sF q A s H) : sF q B t H1 := by
  obtain ⟨a, b, c, d⟩ := h
  exact ⟨((va_O.moved hm a).kept hq).narrow hAB, ((va_OF.moved hm b).kept hq).narrow hAB, ((va_OF.moved hm c).kept hq).narrow hAB, ((va_T.moved hm d).kept hq).narrow hAB⟩
theorem sE.to {o : Option xS} {A B : Nat → Prop} {s t : State} {H H1 : Heap} (hm : s.vm.Alike t.vm) (hq : ∀ a : Nat, a < H.size → ¬ A a → H1[a]? = H[a]?) (hAB : ∀ q, B q → A q) (h : sE o A s H) : sE o B t H1 := fun q e => sF.to hm hq hAB (h q e)
theorem sE_none {A : Nat → Prop} {U : State} {H : Heap} : sE none A U H := fun q e => by cases e
def mP (D : va_G) (g : xG) (ws : va_W) (sz : Nat) (o : Option xS) (U : State) : Prop := nP D g ws sz U ∧ sE o (va_A ws sz) U U.heap
theorem m_blind {as : List Value} {D : va_G} {g : xG} {ws : va_W} {sz : Nat} {o : Option xS} : FrameBlind (va_Pc as (mP D g ws sz o)) :=
  fun a U g' mk q => ⟨q.1, (n_blind (as := as) a U g' mk ⟨q.1, q.2.1⟩).2, sE.to (s := U) (t := U.calling g' mk a) (Vm.Alike.refl U.vm) (fun _ _ _ => rfl) (fun _ h => h) q.2.2⟩
def mB (D : va_G) (ws : va_W) (sz : Nat) (Wq : va_W → Prop) (t : State) : Prop := ∃ w1, Wq w1 ∧ va_P D xCl w1 t.heap ∧ va_D (va_A ws sz) w1
def mV (l : Launch) (D : va_G) (g : xG) (y : MethodName) (cc : ByteArray) (nL : Nat) (rm : Room) (as : List Value) (ws : va_W) (o : Option xS) (mc ms : Nat) (Wq : va_W → Prop) : Prop :=
  (ws.map Prod.fst).Nodup → ∀ sz, Met l y (ws_ y cc nL none) rm (va_Pc as (mP D g ws sz o)) (va_Qv (fun (_ : Unit) => True) (fun _ t => mB D ws sz Wq t) (va_A ws sz)) mc ms (va_A ws sz)
def mI (l : Launch) (D : va_G) (g : xG) (y : MethodName) (cc : ByteArray) (nL : Nat) (ret : FieldType) (rm : Room) (as : List Value) (ws : va_W) (o : Option xS) (mc ms : Nat) (r : Int32) (Wq : va_W → Prop) : Prop :=
  (ws.map Prod.fst).Nodup → ∀ sz, Met l y (ws_ y cc nL (some ret)) rm (va_Pc as (mP D g ws sz o)) (va_Qi (fun r' (_ : Unit) => r' = r) (fun _ t => mB D ws sz Wq t) (va_A ws sz)) mc ms (va_A ws sz)
def mR (l : Launch) (D : va_G) (g : xG) (y : MethodName) (cc : ByteArray) (nL : Nat) (ret : FieldType) (rm : Room) (as : List Value) (ws : va_W) (o : Option xS) (mc ms : Nat) (Wq : Nat → va_W → Prop) : Prop :=
  (ws.map Prod.fst).Nodup → ∀ sz, Met l y (ws_ y cc nL (some ret)) rm (va_Pc as (mP D g ws sz o)) (va_Qr (fun (_ : Unit) => True) (fun _ a t => mB D ws sz (Wq a) t) (va_A ws sz)) mc ms (va_A ws sz)
theorem A_self {ws : va_W} {sz : Nat} (h : (ws.map Prod.fst).Nodup) : va_D (va_A ws sz) ws := D_iff.mpr ⟨h, fun q hq => by
  obtain ⟨k, hk⟩ := List.getElem?_of_mem hq
  exact Or.inl ⟨k, q.2, hk⟩⟩
theorem m_start {l : Launch} {D : va_G} {g : xG} {y : MethodName} {cc : ByteArray} {nL : Nat} {ret : Option FieldType} {rm : Room} {as : List Value} {ws : va_W} {o : Option xS} {mc ms sz : Nat} {Qc : Array Value → State → Outcome → State → Prop} {own : String} {lv : List (Nat × Value)}
    (hy : plainName y.cls = true) (hown' : y.cls = own) (hlv : lv_args 0 as = lv) (hln : (lg_sl as).length ≤ nL) (hnd : (ws.map Prod.fst).Nodup)
    (body : ∀ (p : Program) (e : Env) (s : State) (m : MethodId) (below : List Frame) (meth : Method) (c : Code), s.heap.size = sz → NC p s m as.toArray c cc nL own D g (va_A ws s.heap.size) → sE o (va_A ws s.heap.size) s s.heap → meth.sig.returnType = ret → meth.locks = false → meth.name = y.name → WN p l e rm s m as.toArray below meth c 0 0 (MQ below Qc as.toArray s mc ms (va_A ws sz)) nL D (va_A ws s.heap.size) 0 lv [] ws) :
    Met l y (ws_ y cc nL ret) rm (va_Pc as (mP D g ws sz o)) Qc mc ms (va_A ws sz) := by
  refine Met.ofW (cc := cc) (maxL := nL) (ret := ret) hy rfl ?_
  intro p e s m args below meth c s₁ B hml hv
  obtain ⟨rfl, ⟨hsz, hP, hK, hN, hKS⟩, hE⟩ := hv
  have hts0 := atoms_spec (ws := ws_ y cc nL ret) B.pre
  have hts : ∀ w ∈ xA, w.before as.toArray s = true := fun w h => hts0 w (List.mem_cons_of_mem _ h)
  have hown : s.vm.findClass own = some m.cls := by rw [← hown']; exact findClass_of_methodNamed B.named
  have hn : meth.name = y.name := (name_of_methodNamed B.named B.method).1
  have hl := lv_entry as (n := nL) hln
  rw [lg_entry_eq]
  rw [hlv] at hl
  rw [← hsz] at hKS hE
  exact body p e s m below meth c hsz ⟨B.exec, B.bytes, hml, hown, hts, hK, hN, fun q h => Or.inr h, hKS⟩ hE B.returns B.notSynchronized hn s.heap [] _ hP (A_self hnd) va_S.rf hl
section MST
variable {l : Launch} {D : va_G} {g : xG} {y : MethodName} {cc : ByteArray} {nL : Nat} {rm : Room} {as : List Value} {ws : va_W} {o : Option xS} {mc ms : Nat} {own : String} {lv : List (Nat × Value)}
theorem m_startV {Wq : va_W → Prop} (hy : plainName y.cls = true) (hown' : y.cls = own) (hlv : lv_args 0 as = lv) (hln : (lg_sl as).length ≤ nL)
    (body : ∀ (p : Program) (e : Env) (s : State) (m : MethodId) (args : Array Value) (below : List Frame) (meth : Method) (c : Code) (A : Nat → Prop) (Q : State → Prop), NC p s m args c cc nL own D g A → sE o A s s.heap → meth.name = y.name → (∀ {pc : Nat} {lv : List (Nat × Value)} {w1 : va_W}, Wq w1 → decode cc pc = .ok (.return_, 1) → WN p l e rm s m args below meth c mc ms Q nL D A pc lv [] w1) → WN p l e rm s m args below meth c 0 0 Q nL D A 0 lv [] ws) : mV l D g y cc nL rm as ws o mc ms Wq := by
  intro hnd sz
  refine m_start hy hown' hlv hln hnd ?_
  rintro p e s m below meth c rfl C0 hE hr hlk hn
  refine body p e s m _ below meth c _ _ C0 hE hn (fun {pc lv w1} hw hd => ?_)
  intro H locs ls h1 h2 h3 h4
  exact W.vret C0.1 C0.2.1 hr (fun t ht hW => ⟨⟨(), rfl, trivial, w1, hw, by rw [ht]; exact h1, h2⟩, h3.F ht⟩) h3.2.2 hd hlk
theorem m_startI {ret : FieldType} {r : Int32} {Wq : va_W → Prop} (hy : plainName y.cls = true) (hown' : y.cls = own) (hlv : lv_args 0 as = lv) (hln : (lg_sl as).length ≤ nL)
    (body : ∀ (p : Program) (e : Env) (s : State) (m : MethodId) (args : Array Value) (below : List Frame) (meth : Method) (c : Code) (A : Nat → Prop) (Q : State → Prop), NC p s m args c cc nL own D g A → sE o A s s.heap → (∀ {pc : Nat} {lv : List (Nat × Value)} {w1 : va_W} {v : Int32}, v = r → narrow ret (.int v) = .int v → Wq w1 → decode cc pc = .ok (.ireturn, 1) → WN p l e rm s m args below meth c mc ms Q nL D A pc lv [.int v] w1) → WN p l e rm s m args below meth c 0 0 Q nL D A 0 lv [] ws) : mI l D g y cc nL ret rm as ws o mc ms r Wq := by
  intro hnd sz
  refine m_start hy hown' hlv hln hnd ?_
  rintro p e s m below meth c rfl C0 hE hr hlk hn
  refine body p e s m _ below meth c _ _ C0 hE (fun {pc lv w1 v} hv hz hw hd => ?_)
  subst hv
  intro H locs ls h1 h2 h3 h4
  exact W.zret C0.1 C0.2.1 hr hz (fun t ht hW => ⟨⟨v, (), rfl, rfl, w1, hw, by rw [ht]; exact h1, h2⟩, h3.F ht⟩) h3.2.2 hd hlk
theorem m_startR {ret : FieldType} {Wq : Nat → va_W → Prop} (hret : (∃ n, ret = .object n) ∨ ∃ t, ret = .array t) (hy : plainName y.cls = true) (hown' : y.cls = own) (hlv : lv_args 0 as = lv) (hln : (lg_sl as).length ≤ nL)
    (body : ∀ (p : Program) (e : Env) (s : State) (m : MethodId) (args : Array Value) (below : List Frame) (meth : Method) (c : Code) (A : Nat → Prop) (Q : State → Prop), NC p s m args c cc nL own D g A → sE o A s s.heap → (∀ {pc : Nat} {lv : List (Nat × Value)} {w1 : va_W} {a : Nat}, Wq a w1 → decode cc pc = .ok (.areturn, 1) → WN p l e rm s m args below meth c mc ms Q nL D A pc lv [.ref a] w1) → WN p l e rm s m args below meth c 0 0 Q nL D A 0 lv [] ws) : mR l D g y cc nL ret rm as ws o mc ms Wq := by
  intro hnd sz
  refine m_start hy hown' hlv hln hnd ?_
  rintro p e s m below meth c rfl C0 hE hr hlk hn
  refine body p e s m _ below meth c _ _ C0 hE (fun {pc lv w1 a} hw hd => ?_)
  intro H locs ls h1 h2 h3 h4
  exact W.aret C0.1 C0.2.1 hr hret (Or.inr ⟨a, rfl⟩) (fun t ht hW => ⟨⟨(), a, rfl, trivial, w1, hw, by rw [ht]; exact h1, h2⟩, h3.F ht⟩) h3.2.2 hd hlk
end MST
section FR
variable {D : va_G} {A : Nat → Prop} {s : State} {H H2 : Heap} {locs : List Loc} {w0 w1 wr : va_W}
theorem fr_A (hD : va_D A (w0 ++ wr)) (hA : ∀ q, s.heap.size ≤ q → A q) (hS : va_S A s.heap H locs) : ∀ z, va_A w0 H.size z → A z := by
  intro z hz
  rcases hz with ⟨kk, ee, hk⟩ | hz
  · exact (D_iff.mp hD).2 _ (List.mem_append_left _ (List.mem_of_getElem? hk))
  · exact hA z (Nat.le_trans hS.1 hz)
theorem fr_ne (hP : va_P D xCl (w0 ++ wr) H) (hD : va_D A (w0 ++ wr)) : ∀ z ∈ wr, z.1 < H.size ∧ ¬ va_A w0 H.size z.1 := by
  intro z hz
  obtain ⟨kz, hkz⟩ := List.getElem?_of_mem hz
  have hlt : z.1 < H.size := ((P_app.mp hP).2 kz z hkz).lt
  refine ⟨hlt, fun h => ?_⟩
  rcases h with ⟨kk, ee, hk⟩ | h
  · have hm := List.mem_of_getElem? hk
    have hnd := (D_iff.mp hD).1
    rw [List.map_append, List.nodup_append] at hnd
    exact hnd.2.2 z.1 (List.mem_map.mpr ⟨_, hm, rfl⟩) z.1 (List.mem_map.mpr ⟨z, hz, rfl⟩) rfl
  · omega
theorem fr_post (hP : va_P D xCl (w0 ++ wr) H) (hD : va_D A (w0 ++ wr)) (hF : ∀ z, va_A w0 H.size z → A z) (hk : ∀ q : Nat, q < H.size → ¬ va_A w0 H.size q → H2[q]? = H[q]?) (hP1 : va_P D xCl w1 H2) (hD1 : va_D (va_A w0 H.size) w1) : va_P D xCl (w1 ++ wr) H2 ∧ va_D A (w1 ++ wr) := by
  have hne := fr_ne hP hD
  refine ⟨P_app.mpr ⟨hP1, P_iff.mpr (fun z hz => ?_)⟩, D_join (hD1.weaken (fun _ z _ h => hF z.1 h)) (D_right hD) (fun z hz z2 hz2 e => ?_)⟩
  · exact (P_iff.mp (P_app.mp hP).2 z hz).kept (hk z.1 (hne z hz).1 (hne z hz).2)
  · refine (hne z2 hz2).2 ?_
    rw [← e]
    exact (D_iff.mp hD1).2 z hz
end FR
/-- what a caller can say of the text -/
def oG (s : State) (A : Nat → Prop) (D : va_G) (w0 wr : va_W) (o : Option xS) : Prop := ∀ (H : Heap) (locs : List Loc) (U : State), va_P D xCl (w0 ++ wr) H → va_D A (w0 ++ wr) → va_S A s.heap H locs → (∀ z, va_A w0 H.size z → A z) → U.heap = H → s.WarmedH U.vm → sE o (va_A w0 H.size) U H
theorem oG_none {s : State} {A : Nat → Prop} {D : va_G} {w0 wr : va_W} : oG s A D w0 wr none := fun _ _ _ _ _ _ _ _ _ => sE_none
theorem oG_own {s : State} {A : Nat → Prop} {D : va_G} {w0 wr : va_W} {o : Option xS} (hE : sE o A s s.heap) : oG s A D w0 wr o := fun H locs U _ _ hS hF hU hW => sE.to hW.alike hS.2.1 hF hE
theorem oG_const {p : Program} {s : State} {m : MethodId} {args : Array Value} {c : Code} {cc : ByteArray} {nL : Nat} {own : String} {D : va_G} {g : xG} {A : Nat → Prop} {w0 wr : va_W} (C0 : NC p s m args c cc nL own D g A) {i : Nat} (hi : i < 40) : oG s A D w0 wr (some (g.1 20 i, g.1 21 i, x_slen i, x_sb i)) := fun H locs U _ _ hS hF hU hW => sE.to hW.alike hS.2.1 hF (fun q e => by
  cases e
  obtain ⟨a, b, c, d⟩ := C0.kA.2.2.1 i hi
  exact ⟨a, b, c, d⟩)
section MC1
variable {p : Program} {l : Launch} {e : Env} {R : Room} {s : State} {m : MethodId} {args : Array Value} {below : List Frame} {meth : Method} {c : Code} {cells slots : Nat} {Q : State → Prop}
variable {cc : ByteArray} {nL : Nat} {own : String} {D : va_G} {g : xG} {A : Nat → Prop} {pc : Nat} {lv : List (Nat × Value)} {st : List Value} {ws w0 wr : va_W} {o : Option xS} {mc ms : Nat}
theorem WN.less {ws2 : va_W} (h : ws2.Sublist ws) (k : WN p l e R s m args below meth c cells slots Q nL D A pc lv st ws2) : WN p l e R s m args below meth c cells slots Q nL D A pc lv st ws := fun H locs ls h1 h2 h3 h4 =>
  k H locs ls (P_iff.mpr (fun q hq => P_iff.mp h1 q (h.subset hq))) (D_iff.mpr ⟨(h.map Prod.fst).nodup (D_iff.mp h2).1, fun q hq => (D_iff.mp h2).2 q (h.subset hq)⟩) h3 h4
theorem m_pre (C0 : NC p s m args c cc nL own D g A) {H : Heap} {locs : List Loc} (h1 : va_P D xCl (w0 ++ wr) H) (h2 : va_D A (w0 ++ wr)) (h3 : va_S A s.heap H locs) (ho : oG s A D w0 wr o) {U : State} (hU : U.heap = H) (hW : s.WarmedH U.vm) : mP D g w0 H.size o U := by
  have hF := fr_A h2 C0.2.2.2.2.2.2.2.1 h3
  exact ⟨⟨by rw [hU], by rw [hU]; exact (P_app.mp h1).1, va_K.moved hW.alike C0.2.2.2.2.2.1, NX.warm hW C0.2.2.2.2.2.2.1, x_KS2.to C0.2.2.2.2.2.2.2.2 h3 hF hU hW⟩, by rw [hU]; exact ho H locs U h1 h2 h3 hF hU hW⟩
theorem m_fv (C0 : NC p s m args c cc nL own D g A) {H : Heap} {locs : List Loc} {ls : Array Slot} {av : Array Value} {stk rest : List Value} {Wq : va_W → Prop} (h1 : va_P D xCl (w0 ++ wr) H) (h2 : va_D A (w0 ++ wr)) (h3 : va_S A s.heap H locs) (h4 : lv_has ls nL lv)
    (hr : va_Run p l e R s m args below meth c H locs cells slots mc ms (F0 m pc ls stk) rest (va_Qv (fun (_ : Unit) => True) (fun _ t => mB D w0 H.size Wq t) (va_A w0 H.size) av) (va_A w0 H.size))
    (k : ∀ w1, Wq w1 → WN p l e R s m args below meth c (cells + mc) (slots + ms) Q nL D A (pc + 3) lv rest (w1 ++ wr)) : W p l e R s m args below meth c H locs cells slots Q (F0 m pc ls stk) := by
  have hF := fr_A h2 C0.2.2.2.2.2.2.2.1 h3
  refine va_callv hr h3 (fun q _ hq => hF q hq) (fun q hq => hF q hq) (fun u t H1 locs1 ht hvm hw hB hz1 hk1 hS1 => ?_)
  obtain ⟨w1, hw1, hP1, hD1⟩ := hB
  rw [ht] at hP1
  obtain ⟨a, b⟩ := fr_post h1 h2 hF hk1 hP1 hD1
  exact k w1 hw1 H1 locs1 ls a b hS1 h4
theorem m_fi (C0 : NC p s m args c cc nL own D g A) {H : Heap} {locs : List Loc} {ls : Array Slot} {av : Array Value} {stk rest : List Value} {r : Int32} {Wq : va_W → Prop} (h1 : va_P D xCl (w0 ++ wr) H) (h2 : va_D A (w0 ++ wr)) (h3 : va_S A s.heap H locs) (h4 : lv_has ls nL lv)
    (hr : va_Run p l e R s m args below meth c H locs cells slots mc ms (F0 m pc ls stk) rest (va_Qi (fun r' (_ : Unit) => r' = r) (fun _ t => mB D w0 H.size Wq t) (va_A w0 H.size) av) (va_A w0 H.size))
    (k : ∀ w1, Wq w1 → WN p l e R s m args below meth c (cells + mc) (slots + ms) Q nL D A (pc + 3) lv (.int r :: rest) (w1 ++ wr)) : W p l e R s m args below meth c H locs cells slots Q (F0 m pc ls stk) := by
  have hF := fr_A h2 C0.2.2.2.2.2.2.2.1 h3
  refine va_calli hr h3 (fun q _ hq => hF q hq) (fun q hq => hF q hq) ?_
  rintro r' u t H1 locs1 ht hvm rfl hB hz1 hk1 hS1
  obtain ⟨w1, hw1, hP1, hD1⟩ := hB
  rw [ht] at hP1
  obtain ⟨a, b⟩ := fr_post h1 h2 hF hk1 hP1 hD1
  exact k w1 hw1 H1 locs1 ls a b hS1 h4
theorem m_fr (C0 : NC p s m args c cc nL own D g A) {H : Heap} {locs : List Loc} {ls : Array Slot} {av : Array Value} {stk rest : List Value} {Wq : Nat → va_W → Prop} (h1 : va_P D xCl (w0 ++ wr) H) (h2 : va_D A (w0 ++ wr)) (h3 : va_S A s.heap H locs) (h4 : lv_has ls nL lv)
    (hr : va_Run p l e R s m args below meth c H locs cells slots mc ms (F0 m pc ls stk) rest (va_Qr (fun (_ : Unit) => True) (fun _ a t => mB D w0 H.size (Wq a) t) (va_A w0 H.size) av) (va_A w0 H.size))
    (k : ∀ a w1, Wq a w1 → WN p l e R s m args below meth c (cells + mc) (slots + ms) Q nL D A (pc + 3) lv (.ref a :: rest) (w1 ++ wr)) : W p l e R s m args below meth c H locs cells slots Q (F0 m pc ls stk) := by
  have hF := fr_A h2 C0.2.2.2.2.2.2.2.1 h3
  refine va_callr hr h3 (fun q _ hq => hF q hq) (fun q hq => hF q hq) (fun u ra t H1 locs1 ht hvm hw hB hz1 hk1 hS1 => ?_)
  obtain ⟨w1, hw1, hP1, hD1⟩ := hB
  rw [ht] at hP1
  obtain ⟨a, b⟩ := fr_post h1 h2 hF hk1 hP1 hD1
  exact k ra w1 hw1 H1 locs1 ls a b hS1 h4
theorem m_nd (h2 : va_D A (w0 ++ wr)) : (w0.map Prod.fst).Nodup := (D_iff.mp (D_left h2)).1
/-- a receiver: something that lies in the world, or a text -/
def rG (s : State) (A : Nat → Prop) (D : va_G) (ws : va_W) (C : String) (a : Nat) : Prop := ∀ (H : Heap) (locs : List Loc), va_P D xCl ws H → va_S A s.heap H locs → ∃ cell : Cell, H[a]? = some cell ∧ cell.vm.isStatics = false ∧ s.vm.findClass C = some cell.cls
theorem rG_w (C0 : NC p s m args c cc nL own D g A) {a ci : Nat} {q : vw_C} {fs : List Value} (q0 : Nat) (he : ws[q0]? = some (a, .inr (ci, fs))) (hc : xCl[ci]? = some q) : rG s A D ws q.1 a := fun H locs h1 _ => va_recv C0.2.2.2.2.2.1 h1 hc he
theorem rG_o {q : xS} (hE : sE (some q) A s s.heap) : rG s A D ws RJ0 q.1 := fun H locs _ h2 => va_Orecv (hE q rfl).1 h2
theorem rG_c (C0 : NC p s m args c cc nL own D g A) {i : Nat} (hi : i < 40) : rG s A D ws RJ0 (g.1 20 i) := fun H locs _ h2 => va_Orecv (C0.kA.2.2.1 i hi).1 h2
theorem q_sval (C0 : NC p s m args c cc nL own D g A) {q : xS} (hE : sE (some q) A s s.heap) {index : Nat} (hw : Cond.fieldLink own index "java/lang/String" "value" "[B" ∈ xA) (hd : decode cc pc = .ok (.getfield index, 3)) (k : WN p l e R s m args below meth c cells slots Q nL D A (pc + 3) lv (.ref q.2.1 :: st) ws) : WN p l e R s m args below meth c cells slots Q nL D A pc lv (.ref q.1 :: st) ws :=
  fun H locs ls h1 h2 h3 h4 => vk_getf C0.1 C0.2.1 (hE q rfl).2.2.1 h3 C0.2.2.2.1 (C0.2.2.2.2.1 _ hw) (fun _ h => h) hd (k H locs ls h1 h2 h3 h4)
theorem q_scod (C0 : NC p s m args c cc nL own D g A) {q : xS} (hE : sE (some q) A s s.heap) {index : Nat} (hw : Cond.fieldLink own index "java/lang/String" "coder" "B" ∈ xA) (hd : decode cc pc = .ok (.getfield index, 3)) (k : WN p l e R s m args below meth c cells slots Q nL D A (pc + 3) lv (.int 0 :: st) ws) : WN p l e R s m args below meth c cells slots Q nL D A pc lv (.ref q.1 :: st) ws :=
  fun H locs ls h1 h2 h3 h4 => vk_getf C0.1 C0.2.1 (hE q rfl).2.1 h3 C0.2.2.2.1 (C0.2.2.2.2.1 _ hw) (fun _ h => h) hd (k H locs ls h1 h2 h3 h4)
theorem q_slen (C0 : NC p s m args c cc nL own D g A) {q : xS} (hE : sE (some q) A s s.heap) (hd : decode cc pc = .ok (.arraylength, 1)) (k : WN p l e R s m args below meth c cells slots Q nL D A (pc + 1) lv (.int (nI q.2.2.1) :: st) ws) : WN p l e R s m args below meth c cells slots Q nL D A pc lv (.ref q.2.1 :: st) ws :=
  fun H locs ls h1 h2 h3 h4 => va_tlen C0.1 C0.2.1 (hE q rfl).2.2.2 h3 rfl hd (k H locs ls h1 h2 h3 h4)
theorem q_sbyte (C0 : NC p s m args c cc nL own D g A) {q : xS} (hE : sE (some q) A s s.heap) {j : Int32} (hin : inb j q.2.2.1 = true) (hd : decode cc pc = .ok (.baload, 1)) (k : WN p l e R s m args below meth c cells slots Q nL D A (pc + 1) lv (.int (q.2.2.2 j.toNatClampNeg) :: st) ws) : WN p l e R s m args below meth c cells slots Q nL D A pc lv (.int j :: .ref q.2.1 :: st) ws :=
  fun H locs ls h1 h2 h3 h4 => va_tb C0.1 C0.2.1 (hE q rfl).2.2.2 h3 (inb_in hin) rfl hd (k H locs ls h1 h2 h3 h4)
theorem m_callVv (C0 : NC p s m args c cc nL own D g A) {y : MethodName} {bytes : ByteArray} {maxL idx n : Nat} {rm : Room} {As rest stk : List Value} {C : String} {a : Nat} {Wq : va_W → Prop} (hM : mV l D g y bytes maxL rm (.ref a :: As) w0 o mc ms Wq) (hp : ws.Perm (w0 ++ wr)) (ho : oG s A D w0 wr o) (w1 : Cond.methodLink own idx y ∈ xA) (w2 : Cond.instanceMethod y ∈ xA) (w3 : Cond.selects C y y ∈ xA) (w5 : Cond.code y bytes maxL none ∈ xA) (w4 : Cond.initialized y.cls ∈ xA) (hdd : y.cls ≠ "java/lang/invoke/MethodHandle" ∧ y.cls ≠ "java/lang/invoke/VarHandle" ∧ (parseMethodDescriptor y.desc).map (fun d => d.parameters.length) = some n) (hn : As.length = n) (hrm : rm.cells = mc ∧ rm.slots = ms) (hR : rm.frames + 1 ≤ R.frames ∧ 8 + (maxL + 11) + rm.locals ≤ R.locals) (hfc : cells + mc ≤ R.cells) (hfs : slots + ms ≤ R.slots) (hrec : rG s A D (w0 ++ wr) C a) (hst : stk = As.reverse ++ .ref a :: rest) (hcat : (rest.map fun v => v.category).sum ≤ 8) (hd : decode cc pc = .ok (.invokevirtual idx, 3)) (k : ∀ w1, Wq w1 → WN p l e R s m args below meth c (cells + mc) (slots + ms) Q nL D A (pc + 3) lv rest (w1 ++ wr)) : WN p l e R s m args below meth c cells slots Q nL D A pc lv stk ws := by
  refine WN.perm hp ?_
  intro H locs ls h1 h2 h3 h4
  subst hst
  exact m_fv C0 h1 h2 h3 h4 (va_runV (As := As) (rest := rest) ⟨C0.1, C0.2.1, C0.2.2.1, C0.2.2.2.1, C0.2.2.2.2.1⟩ (hM (m_nd h2) H.size) ⟨callB_of n C0.2.2.2.2.1 (x_good [] (fun w h => absurd h List.not_mem_nil) w5) rfl hrm.1 hrm.2 (C0.2.2.2.2.1 _ w4) (C0.2.2.2.2.1 _ w1) hdd hR, C0.2.2.2.2.1 _ w2, C0.2.2.2.2.1 _ w3⟩ ⟨m_blind, hrec H _ h1 h3, fun U hU hW => ⟨rfl, m_pre C0 h1 h2 h3 ho hU hW⟩⟩ rfl hn h4.1 rfl (lv_room hcat) hd ⟨hfc, hfs⟩) k
theorem m_callSv (C0 : NC p s m args c cc nL own D g A) {y : MethodName} {bytes : ByteArray} {maxL idx n : Nat} {rm : Room} {As rest stk : List Value} {Wq : va_W → Prop} (hM : mV l D g y bytes maxL rm As w0 o mc ms Wq) (hp : ws.Perm (w0 ++ wr)) (ho : oG s A D w0 wr o) (w1 : Cond.methodLink own idx y ∈ xA) (w2 : Cond.static y ∈ xA) (w5 : Cond.code y bytes maxL none ∈ xA) (w4 : Cond.initialized y.cls ∈ xA) (hdd : y.cls ≠ "java/lang/invoke/MethodHandle" ∧ y.cls ≠ "java/lang/invoke/VarHandle" ∧ (parseMethodDescriptor y.desc).map (fun d => d.parameters.length) = some n) (hn : As.length = n) (hrm : rm.cells = mc ∧ rm.slots = ms) (hR : rm.frames + 1 ≤ R.frames ∧ 8 + (maxL + 11) + rm.locals ≤ R.locals) (hfc : cells + mc ≤ R.cells) (hfs : slots + ms ≤ R.slots) (hst : stk = As.reverse ++ rest) (hcat : (rest.map fun v => v.category).sum ≤ 8) (hd : decode cc pc = .ok (.invokestatic idx, 3)) (k : ∀ w1, Wq w1 → WN p l e R s m args below meth c (cells + mc) (slots + ms) Q nL D A (pc + 3) lv rest (w1 ++ wr)) : WN p l e R s m args below meth c cells slots Q nL D A pc lv stk ws := by
  refine WN.perm hp ?_
  intro H locs ls h1 h2 h3 h4
  subst hst
  exact m_fv C0 h1 h2 h3 h4 (va_runS (As := As) (rest := rest) ⟨C0.1, C0.2.1, C0.2.2.1, C0.2.2.2.1, C0.2.2.2.2.1⟩ (hM (m_nd h2) H.size) ⟨callB_of n C0.2.2.2.2.1 (x_good [] (fun w h => absurd h List.not_mem_nil) w5) rfl hrm.1 hrm.2 (C0.2.2.2.2.1 _ w4) (C0.2.2.2.2.1 _ w1) hdd hR, C0.2.2.2.2.1 _ w2⟩ ⟨m_blind, fun U hU hW => ⟨rfl, m_pre C0 h1 h2 h3 ho hU hW⟩⟩ rfl hn h4.1 rfl (lv_room hcat) hd ⟨hfc, hfs⟩) k
theorem m_callVi (C0 : NC p s m args c cc nL own D g A) {y : MethodName} {bytes : ByteArray} {maxL idx n : Nat} {rm : Room} {As rest stk : List Value} {C : String} {a : Nat} {ret : FieldType} {r : Int32} {Wq : va_W → Prop} (hM : mI l D g y bytes maxL ret rm (.ref a :: As) w0 o mc ms r Wq) (hp : ws.Perm (w0 ++ wr)) (ho : oG s A D w0 wr o) (w1 : Cond.methodLink own idx y ∈ xA) (w2 : Cond.instanceMethod y ∈ xA) (w3 : Cond.selects C y y ∈ xA) (w5 : Cond.code y bytes maxL (some ret) ∈ xA) (w4 : Cond.initialized y.cls ∈ xA) (hdd : y.cls ≠ "java/lang/invoke/MethodHandle" ∧ y.cls ≠ "java/lang/invoke/VarHandle" ∧ (parseMethodDescriptor y.desc).map (fun d => d.parameters.length) = some n) (hn : As.length = n) (hrm : rm.cells = mc ∧ rm.slots = ms) (hR : rm.frames + 1 ≤ R.frames ∧ 8 + (maxL + 11) + rm.locals ≤ R.locals) (hfc : cells + mc ≤ R.cells) (hfs : slots + ms ≤ R.slots) (hrec : rG s A D (w0 ++ wr) C a) (hst : stk = As.reverse ++ .ref a :: rest) (hcat : (rest.map fun v => v.category).sum ≤ 8) (hd : decode cc pc = .ok (.invokevirtual idx, 3)) (k : ∀ w1, Wq w1 → WN p l e R s m args below meth c (cells + mc) (slots + ms) Q nL D A (pc + 3) lv (.int r :: rest) (w1 ++ wr)) : WN p l e R s m args below meth c cells slots Q nL D A pc lv stk ws := by
  refine WN.perm hp ?_
  intro H locs ls h1 h2 h3 h4
  subst hst
  exact m_fi C0 h1 h2 h3 h4 (va_runV (As := As) (rest := rest) ⟨C0.1, C0.2.1, C0.2.2.1, C0.2.2.2.1, C0.2.2.2.2.1⟩ (hM (m_nd h2) H.size) ⟨callB_of n C0.2.2.2.2.1 (x_good [] (fun w h => absurd h List.not_mem_nil) w5) rfl hrm.1 hrm.2 (C0.2.2.2.2.1 _ w4) (C0.2.2.2.2.1 _ w1) hdd hR, C0.2.2.2.2.1 _ w2, C0.2.2.2.2.1 _ w3⟩ ⟨m_blind, hrec H _ h1 h3, fun U hU hW => ⟨rfl, m_pre C0 h1 h2 h3 ho hU hW⟩⟩ rfl hn h4.1 rfl (lv_room hcat) hd ⟨hfc, hfs⟩) k
theorem m_callSi (C0 : NC p s m args c cc nL own D g A) {y : MethodName} {bytes : ByteArray} {maxL idx n : Nat} {rm : Room} {As rest stk : List Value} {ret : FieldType} {r : Int32} {Wq : va_W → Prop} (hM : mI l D g y bytes maxL ret rm As w0 o mc ms r Wq) (hp : ws.Perm (w0 ++ wr)) (ho : oG s A D w0 wr o) (w1 : Cond.methodLink own idx y ∈ xA) (w2 : Cond.static y ∈ xA) (w5 : Cond.code y bytes maxL (some ret) ∈ xA) (w4 : Cond.initialized y.cls ∈ xA) (hdd : y.cls ≠ "java/lang/invoke/MethodHandle" ∧ y.cls ≠ "java/lang/invoke/VarHandle" ∧ (parseMethodDescriptor y.desc).map (fun d => d.parameters.length) = some n) (hn : As.length = n) (hrm : rm.cells = mc ∧ rm.slots = ms) (hR : rm.frames + 1 ≤ R.frames ∧ 8 + (maxL + 11) + rm.locals ≤ R.locals) (hfc : cells + mc ≤ R.cells) (hfs : slots + ms ≤ R.slots) (hst : stk = As.reverse ++ rest) (hcat : (rest.map fun v => v.category).sum ≤ 8) (hd : decode cc pc = .ok (.invokestatic idx, 3)) (k : ∀ w1, Wq w1 → WN p l e R s m args below meth c (cells + mc) (slots + ms) Q nL D A (pc + 3) lv (.int r :: rest) (w1 ++ wr)) : WN p l e R s m args below meth c cells slots Q nL D A pc lv stk ws := by
  refine WN.perm hp ?_
  intro H locs ls h1 h2 h3 h4
  subst hst
  exact m_fi C0 h1 h2 h3 h4 (va_runS (As := As) (rest := rest) ⟨C0.1, C0.2.1, C0.2.2.1, C0.2.2.2.1, C0.2.2.2.2.1⟩ (hM (m_nd h2) H.size) ⟨callB_of n C0.2.2.2.2.1 (x_good [] (fun w h => absurd h List.not_mem_nil) w5) rfl hrm.1 hrm.2 (C0.2.2.2.2.1 _ w4) (C0.2.2.2.2.1 _ w1) hdd hR, C0.2.2.2.2.1 _ w2⟩ ⟨m_blind, fun U hU hW => ⟨rfl, m_pre C0 h1 h2 h3 ho hU hW⟩⟩ rfl hn h4.1 rfl (lv_room hcat) hd ⟨hfc, hfs⟩) k
theorem m_callVr (C0 : NC p s m args c cc nL own D g A) {y : MethodName} {bytes : ByteArray} {maxL idx n : Nat} {rm : Room} {As rest stk : List Value} {C : String} {a : Nat} {ret : FieldType} {Wq : Nat → va_W → Prop} (hM : mR l D g y bytes maxL ret rm (.ref a :: As) w0 o mc ms Wq) (hp : ws.Perm (w0 ++ wr)) (ho : oG s A D w0 wr o) (w1 : Cond.methodLink own idx y ∈ xA) (w2 : Cond.instanceMethod y ∈ xA) (w3 : Cond.selects C y y ∈ xA) (w5 : Cond.code y bytes maxL (some ret) ∈ xA) (w4 : Cond.initialized y.cls ∈ xA) (hdd : y.cls ≠ "java/lang/invoke/MethodHandle" ∧ y.cls ≠ "java/lang/invoke/VarHandle" ∧ (parseMethodDescriptor y.desc).map (fun d => d.parameters.length) = some n) (hn : As.length = n) (hrm : rm.cells = mc ∧ rm.slots = ms) (hR : rm.frames + 1 ≤ R.frames ∧ 8 + (maxL + 11) + rm.locals ≤ R.locals) (hfc : cells + mc ≤ R.cells) (hfs : slots + ms ≤ R.slots) (hrec : rG s A D (w0 ++ wr) C a) (hst : stk = As.reverse ++ .ref a :: rest) (hcat : (rest.map fun v => v.category).sum ≤ 8) (hd : decode cc pc = .ok (.invokevirtual idx, 3)) (k : ∀ a w1, Wq a w1 → WN p l e R s m args below meth c (cells + mc) (slots + ms) Q nL D A (pc + 3) lv (.ref a :: rest) (w1 ++ wr)) : WN p l e R s m args below meth c cells slots Q nL D A pc lv stk ws := by
  refine WN.perm hp ?_
  intro H locs ls h1 h2 h3 h4
  subst hst
  exact m_fr C0 h1 h2 h3 h4 (va_runV (As := As) (rest := rest) ⟨C0.1, C0.2.1, C0.2.2.1, C0.2.2.2.1, C0.2.2.2.2.1⟩ (hM (m_nd h2) H.size) ⟨callB_of n C0.2.2.2.2.1 (x_good [] (fun w h => absurd h List.not_mem_nil) w5) rfl hrm.1 hrm.2 (C0.2.2.2.2.1 _ w4) (C0.2.2.2.2.1 _ w1) hdd hR, C0.2.2.2.2.1 _ w2, C0.2.2.2.2.1 _ w3⟩ ⟨m_blind, hrec H _ h1 h3, fun U hU hW => ⟨rfl, m_pre C0 h1 h2 h3 ho hU hW⟩⟩ rfl hn h4.1 rfl (lv_room hcat) hd ⟨hfc, hfs⟩) k
theorem m_callSr (C0 : NC p s m args c cc nL own D g A) {y : MethodName} {bytes : ByteArray} {maxL idx n : Nat} {rm : Room} {As rest stk : List Value} {ret : FieldType} {Wq : Nat → va_W → Prop} (hM : mR l D g y bytes maxL ret rm As w0 o mc ms Wq) (hp : ws.Perm (w0 ++ wr)) (ho : oG s A D w0 wr o) (w1 : Cond.methodLink own idx y ∈ xA) (w2 : Cond.static y ∈ xA) (w5 : Cond.code y bytes maxL (some ret) ∈ xA) (w4 : Cond.initialized y.cls ∈ xA) (hdd : y.cls ≠ "java/lang/invoke/MethodHandle" ∧ y.cls ≠ "java/lang/invoke/VarHandle" ∧ (parseMethodDescriptor y.desc).map (fun d => d.parameters.length) = some n) (hn : As.length = n) (hrm : rm.cells = mc ∧ rm.slots = ms) (hR : rm.frames + 1 ≤ R.frames ∧ 8 + (maxL + 11) + rm.locals ≤ R.locals) (hfc : cells + mc ≤ R.cells) (hfs : slots + ms ≤ R.slots) (hst : stk = As.reverse ++ rest) (hcat : (rest.map fun v => v.category).sum ≤ 8) (hd : decode cc pc = .ok (.invokestatic idx, 3)) (k : ∀ a w1, Wq a w1 → WN p l e R s m args below meth c (cells + mc) (slots + ms) Q nL D A (pc + 3) lv (.ref a :: rest) (w1 ++ wr)) : WN p l e R s m args below meth c cells slots Q nL D A pc lv stk ws := by
  refine WN.perm hp ?_
  intro H locs ls h1 h2 h3 h4
  subst hst
  exact m_fr C0 h1 h2 h3 h4 (va_runS (As := As) (rest := rest) ⟨C0.1, C0.2.1, C0.2.2.1, C0.2.2.2.1, C0.2.2.2.2.1⟩ (hM (m_nd h2) H.size) ⟨callB_of n C0.2.2.2.2.1 (x_good [] (fun w h => absurd h List.not_mem_nil) w5) rfl hrm.1 hrm.2 (C0.2.2.2.2.1 _ w4) (C0.2.2.2.2.1 _ w1) hdd hR, C0.2.2.2.2.1 _ w2⟩ ⟨m_blind, fun U hU hW => ⟨rfl, m_pre C0 h1 h2 h3 ho hU hW⟩⟩ rfl hn h4.1 rfl (lv_room hcat) hd ⟨hfc, hfs⟩) k
theorem m_callIv (C0 : NC p s m args c cc nL own D g A) {y : MethodName} {bytes : ByteArray} {maxL idx n : Nat} {rm : Room} {As rest stk : List Value} {a : Nat} {Wq : va_W → Prop} (hM : mV l D g y bytes maxL rm (.ref a :: As) w0 o mc ms Wq) (hp : ws.Perm (w0 ++ wr)) (ho : oG s A D w0 wr o) (w1 : Cond.methodLink own idx y ∈ xA) (w2 : Cond.instanceMethod y ∈ xA) (w5 : Cond.code y bytes maxL none ∈ xA) (hyn : y.name = "<init>") (w4 : Cond.initialized y.cls ∈ xA) (hdd : y.cls ≠ "java/lang/invoke/MethodHandle" ∧ y.cls ≠ "java/lang/invoke/VarHandle" ∧ (parseMethodDescriptor y.desc).map (fun d => d.parameters.length) = some n) (hn : As.length = n) (hrm : rm.cells = mc ∧ rm.slots = ms) (hR : rm.frames + 1 ≤ R.frames ∧ 8 + (maxL + 11) + rm.locals ≤ R.locals) (hfc : cells + mc ≤ R.cells) (hfs : slots + ms ≤ R.slots) (hst : stk = As.reverse ++ .ref a :: rest) (hcat : (rest.map fun v => v.category).sum ≤ 8) (hd : decode cc pc = .ok (.invokespecial idx, 3)) (k : ∀ w1, Wq w1 → WN p l e R s m args below meth c (cells + mc) (slots + ms) Q nL D A (pc + 3) lv rest (w1 ++ wr)) : WN p l e R s m args below meth c cells slots Q nL D A pc lv stk ws := by
  refine WN.perm hp ?_
  intro H locs ls h1 h2 h3 h4
  subst hst
  exact m_fv C0 h1 h2 h3 h4 (va_runI (As := As) (rest := rest) ⟨C0.1, C0.2.1, C0.2.2.1, C0.2.2.2.1, C0.2.2.2.2.1⟩ (hM (m_nd h2) H.size) ⟨callB_of n C0.2.2.2.2.1 (x_good [] (fun w h => absurd h List.not_mem_nil) w5) rfl hrm.1 hrm.2 (C0.2.2.2.2.1 _ w4) (C0.2.2.2.2.1 _ w1) hdd hR, hyn, C0.2.2.2.2.1 _ w2⟩ ⟨m_blind, fun U hU hW => ⟨rfl, m_pre C0 h1 h2 h3 ho hU hW⟩⟩ rfl hn h4.1 rfl (lv_room hcat) hd ⟨hfc, hfs⟩) k
theorem m_callPr (C0 : NC p s m args c cc nL own D g A) {y : MethodName} {bytes : ByteArray} {maxL idx n : Nat} {rm : Room} {As rest stk : List Value} {a ci N : Nat} {C : String} {T : u_T} {ret : FieldType} {Wq : Nat → va_W → Prop} (hM : mR l D g y bytes maxL ret rm (.ref a :: As) w0 o mc ms Wq) (hp : ws.Perm (w0 ++ wr)) (ho : oG s A D w0 wr o) (w1 : Cond.methodLink own idx y ∈ xA) (w2 : Cond.instanceMethod y ∈ xA) (w3 : Cond.sameMethod y.cls y.cls y.name y.desc ∈ xA) (w6 : Cond.superclass own y.cls ∈ xA) (w5 : Cond.code y bytes maxL (some ret) ∈ xA) (w4 : Cond.initialized y.cls ∈ xA) (hcl : xCl[ci]? = some (C, T, N)) (hdd : y.name ≠ "<init>" ∧ (parseMethodDescriptor y.desc).map (fun d => d.parameters.length) = some n) (hn : As.length = n) (hrm : rm.cells = mc ∧ rm.slots = ms) (hR : rm.frames + 1 ≤ R.frames ∧ 8 + (maxL + 11) + rm.locals ≤ R.locals) (hfc : cells + mc ≤ R.cells) (hfs : slots + ms ≤ R.slots) (hrec : rG s A D (w0 ++ wr) C a) (hst : stk = As.reverse ++ .ref a :: rest) (hcat : (rest.map fun v => v.category).sum ≤ 8) (hd : decode cc pc = .ok (.invokespecial idx, 3)) (k : ∀ a w1, Wq a w1 → WN p l e R s m args below meth c (cells + mc) (slots + ms) Q nL D A (pc + 3) lv (.ref a :: rest) (w1 ++ wr)) : WN p l e R s m args below meth c cells slots Q nL D A pc lv stk ws := by
  refine WN.perm hp ?_
  intro H locs ls h1 h2 h3 h4
  subst hst
  exact m_fr C0 h1 h2 h3 h4 (va_runSU (As := As) (rest := rest) (C0.2.2.2.2.2.1.1 ci _ hcl).2 ⟨C0.1, C0.2.1, C0.2.2.1, C0.2.2.2.1, C0.2.2.2.2.1⟩ (hM (m_nd h2) H.size) (va_cwSU n C0.2.2.2.2.1 (x_good [.methodLink own idx y, .sameMethod y.cls y.cls y.name y.desc, .superclass own y.cls, .instanceMethod y, .initialized y.cls] (by simp only [List.mem_cons, List.not_mem_nil, or_false]; rintro w (rfl | rfl | rfl | rfl | rfl) <;> assumption) w5) rfl hrm.1 hrm.2 hdd hR) ⟨m_blind, hrec H _ h1 h3, fun U hU hW => ⟨rfl, m_pre C0 h1 h2 h3 ho hU hW⟩⟩ rfl hn h4.1 rfl (lv_room hcat) hd ⟨hfc, hfs⟩) k
theorem m_callPi (C0 : NC p s m args c cc nL own D g A) {y : MethodName} {bytes : ByteArray} {maxL idx n : Nat} {rm : Room} {As rest stk : List Value} {a ci N : Nat} {C : String} {T : u_T} {ret : FieldType} {r : Int32} {Wq : va_W → Prop} (hM : mI l D g y bytes maxL ret rm (.ref a :: As) w0 o mc ms r Wq) (hp : ws.Perm (w0 ++ wr)) (ho : oG s A D w0 wr o) (w1 : Cond.methodLink own idx y ∈ xA) (w2 : Cond.instanceMethod y ∈ xA) (w3 : Cond.sameMethod y.cls y.cls y.name y.desc ∈ xA) (w6 : Cond.superclass own y.cls ∈ xA) (w5 : Cond.code y bytes maxL (some ret) ∈ xA) (w4 : Cond.initialized y.cls ∈ xA) (hcl : xCl[ci]? = some (C, T, N)) (hdd : y.name ≠ "<init>" ∧ (parseMethodDescriptor y.desc).map (fun d => d.parameters.length) = some n) (hn : As.length = n) (hrm : rm.cells = mc ∧ rm.slots = ms) (hR : rm.frames + 1 ≤ R.frames ∧ 8 + (maxL + 11) + rm.locals ≤ R.locals) (hfc : cells + mc ≤ R.cells) (hfs : slots + ms ≤ R.slots) (hrec : rG s A D (w0 ++ wr) C a) (hst : stk = As.reverse ++ .ref a :: rest) (hcat : (rest.map fun v => v.category).sum ≤ 8) (hd : decode cc pc = .ok (.invokespecial idx, 3)) (k : ∀ w1, Wq w1 → WN p l e R s m args below meth c (cells + mc) (slots + ms) Q nL D A (pc + 3) lv (.int r :: rest) (w1 ++ wr)) : WN p l e R s m args below meth c cells slots Q nL D A pc lv stk ws := by
  refine WN.perm hp ?_
  intro H locs ls h1 h2 h3 h4
  subst hst
  exact m_fi C0 h1 h2 h3 h4 (va_runSU (As := As) (rest := rest) (C0.2.2.2.2.2.1.1 ci _ hcl).2 ⟨C0.1, C0.2.1, C0.2.2.1, C0.2.2.2.1, C0.2.2.2.2.1⟩ (hM (m_nd h2) H.size) (va_cwSU n C0.2.2.2.2.1 (x_good [.methodLink own idx y, .sameMethod y.cls y.cls y.name y.desc, .superclass own y.cls, .instanceMethod y, .initialized y.cls] (by simp only [List.mem_cons, List.not_mem_nil, or_false]; rintro w (rfl | rfl | rfl | rfl | rfl) <;> assumption) w5) rfl hrm.1 hrm.2 hdd hR) ⟨m_blind, hrec H _ h1 h3, fun U hU hW => ⟨rfl, m_pre C0 h1 h2 h3 ho hU hW⟩⟩ rfl hn h4.1 rfl (lv_room hcat) hd ⟨hfc, hfs⟩) k
end MC1
