theorem x_blind {as : List Value} {D : va_G} {g : xG} {tb : List xQ} {M : xM} {sz : Nat} : FrameBlind (va_Pc as (fun U => U.heap.size = sz ∧ x_B D g tb M U)) :=
  fun a U g' mk q => ⟨q.1, q.2.1, q.2.2.1, va_K.moved (u := U) (U := U.calling g' mk a) (Vm.Alike.refl U.vm) q.2.2.2.1, x_KS.calling g' mk a q.2.2.2.2⟩
def x_Qi (D : va_G) (g : xG) (tb : List xQ) (r : Int32) (M : xM) (sz : Nat) : Array Value → State → Outcome → State → Prop := va_Qi (fun r' (_ : Unit) => r' = r) (fun _ t => x_B D g tb M t) (x_A g tb sz)
def x_Qv (D : va_G) (g : xG) (tb : List xQ) (M : xM) (sz : Nat) : Array Value → State → Outcome → State → Prop := va_Qv (fun (_ : Unit) => True) (fun _ t => x_B D g tb M t) (x_A g tb sz)
def x_Qr (D : va_G) (g : xG) (tb : List xQ) (k r : Nat) (M : xM) (sz : Nat) : Array Value → State → Outcome → State → Prop := va_Qr (fun (_ : Unit) => ((k, r, 0) : xQ) ∈ tb) (fun _ a t => a = g.1 k r ∧ x_B D g tb M t) (x_A g tb sz)
/-- contracts: an int, nothing, a reference -/
def cI (l : Launch) (D : va_G) (g : xG) (tb : List xQ) (y : MethodName) (cc : ByteArray) (nL : Nat) (ret : FieldType) (rm : Room) (as : List Value) (M : xM) (r : Int32) (M' : xM) : Prop :=
  ∀ sz, Met l y (ws_ y cc nL (some ret)) rm (va_Pc as (fun U => U.heap.size = sz ∧ x_B D g tb M U)) (x_Qi D g tb r M' sz) 0 0 (x_A g tb sz)
def cV (l : Launch) (D : va_G) (g : xG) (tb : List xQ) (y : MethodName) (cc : ByteArray) (nL : Nat) (rm : Room) (as : List Value) (M : xM) (M' : xM) : Prop :=
  ∀ sz, Met l y (ws_ y cc nL none) rm (va_Pc as (fun U => U.heap.size = sz ∧ x_B D g tb M U)) (x_Qv D g tb M' sz) 0 0 (x_A g tb sz)
def cR (l : Launch) (D : va_G) (g : xG) (tb : List xQ) (y : MethodName) (cc : ByteArray) (nL : Nat) (ret : FieldType) (k : Nat) (rm : Room) (as : List Value) (M : xM) (r : Nat) (M' : xM) : Prop :=
  ∀ sz, Met l y (ws_ y cc nL (some ret)) rm (va_Pc as (fun U => U.heap.size = sz ∧ x_B D g tb M U)) (x_Qr D g tb k r M' sz) 0 0 (x_A g tb sz)
theorem x_start {l : Launch} {D : va_G} {g : xG} {tb : List xQ} {M : xM} {y : MethodName} {cc : ByteArray} {nL : Nat} {ret : Option FieldType} {rm : Room} {as : List Value} {sz : Nat} {Qc : Array Value → State → Outcome → State → Prop} {own : String} {lv : List (Nat × Value)} {mc ms : Nat} {free : Addr → Prop}
    (hy : plainName y.cls = true) (hown' : y.cls = own) (hlv : lv_args 0 as = lv) (hln : (lg_sl as).length ≤ nL) (hT : x_T g tb)
    (body : ∀ (p : Program) (e : Env) (s : State) (m : MethodId) (below : List Frame) (meth : Method) (c : Code), s.heap.size = sz → CC p s m as.toArray c cc nL own D g tb → meth.sig.returnType = ret → meth.locks = false → WW p l e rm s m as.toArray below meth c 0 0 (MQ below Qc as.toArray s mc ms free) nL D g tb 0 lv [] M) :
    Met l y (ws_ y cc nL ret) rm (va_Pc as (fun U => U.heap.size = sz ∧ x_B D g tb M U)) Qc mc ms free := by
  refine Met.ofW (cc := cc) (maxL := nL) (ret := ret) hy rfl ?_
  intro p e s m args below meth c s₁ B hml hv
  obtain ⟨rfl, hsz, hP, hK, hKS⟩ := hv
  have hts0 := atoms_spec (ws := ws_ y cc nL ret) B.pre
  have hts : ∀ w ∈ xA, w.before as.toArray s = true := fun w h => hts0 w (List.mem_cons_of_mem _ h)
  have hown : s.vm.findClass own = some m.cls := by rw [← hown']; exact findClass_of_methodNamed B.named
  have hl := lv_entry as (n := nL) hln
  rw [lg_entry_eq]
  rw [hlv] at hl
  exact body p e s m below meth c hsz ⟨B.exec, B.bytes, hml, hown, hts, hK, hT, hKS⟩ B.returns B.notSynchronized s.heap [] _ hP va_S.rf hl
section XE
variable {p : Program} {l : Launch} {e : Env} {R : Room} {s : State} {m : MethodId} {args : Array Value} {below : List Frame} {meth : Method} {c : Code} {cells slots : Nat} {Q : State → Prop}
variable {cc : ByteArray} {nL : Nat} {own : String} {D : va_G} {g : xG} {tb : List xQ} {pc : Nat} {lv : List (Nat × Value)} {st : List Value} {M : xM}
theorem x_Bend (C0 : CC p s m args c cc nL own D g tb) {H : Heap} {locs : List Loc} {t : State} (h1 : x_H D g tb M H) (h2 : va_S (x_A g tb s.heap.size) s.heap H locs) (ht : t.heap = H) (hW : s.WarmedH t.vm) : x_B D g tb M t :=
  ⟨by rw [ht]; exact h1, va_K.moved hW.alike C0.2.2.2.2.2.1, x_KS.kept C0.2.2.2.2.2.2.2 h2 ht hW⟩
theorem r_iret (C0 : CC p s m args c cc nL own D g tb) {v r : Int32} {M' : xM} (hr : meth.sig.returnType = some .int) (hlk : meth.locks = false) (hf : (some (v, M) : Option (Int32 × xM)) = some (r, M')) (hd : decode cc pc = .ok (.ireturn, 1)) :
    WW p l e R s m args below meth c cells slots (MQ below (x_Qi D g tb r M' s.heap.size) args s cells slots (x_A g tb s.heap.size)) nL D g tb pc lv [.int v] M := by
  cases hf
  intro H locs ls h1 h2 h3
  exact W.iret C0.1 C0.2.1 hr (fun t ht hW => ⟨⟨v, (), rfl, rfl, x_Bend C0 h1 h2 ht hW⟩, h2.F ht⟩) h2.2.2 hd hlk
def isb (v : Int32) : Bool := v == 0 || v == 1
theorem isb_nar {v : Int32} (h : isb v = true) : narrow .boolean (.int v) = .int v := by
  unfold isb at h
  simp only [Bool.or_eq_true, beq_iff_eq] at h
  rcases h with rfl | rfl <;> rfl
theorem r_zret (C0 : CC p s m args c cc nL own D g tb) {v r : Int32} {M' : xM} (hr : meth.sig.returnType = some .boolean) (hlk : meth.locks = false) (hz : isb v = true) (hf : (some (v, M) : Option (Int32 × xM)) = some (r, M')) (hd : decode cc pc = .ok (.ireturn, 1)) :
    WW p l e R s m args below meth c cells slots (MQ below (x_Qi D g tb r M' s.heap.size) args s cells slots (x_A g tb s.heap.size)) nL D g tb pc lv [.int v] M := by
  cases hf
  intro H locs ls h1 h2 h3
  exact W.zret C0.1 C0.2.1 hr (isb_nar hz) (fun t ht hW => ⟨⟨v, (), rfl, rfl, x_Bend C0 h1 h2 ht hW⟩, h2.F ht⟩) h2.2.2 hd hlk
theorem r_vret (C0 : CC p s m args c cc nL own D g tb) {M' : xM} (hr : meth.sig.returnType = none) (hlk : meth.locks = false) (hf : (some M : Option xM) = some M') (hd : decode cc pc = .ok (.return_, 1)) :
    WW p l e R s m args below meth c cells slots (MQ below (x_Qv D g tb M' s.heap.size) args s cells slots (x_A g tb s.heap.size)) nL D g tb pc lv [] M := by
  cases hf
  intro H locs ls h1 h2 h3
  exact W.vret C0.1 C0.2.1 hr (fun t ht hW => ⟨⟨(), rfl, trivial, x_Bend C0 h1 h2 ht hW⟩, h2.F ht⟩) h2.2.2 hd hlk
theorem r_aret (C0 : CC p s m args c cc nL own D g tb) {k v r : Nat} {M' : xM} {n : String} (hm0 : ((k, v, 0) : xQ) ∈ tb) (hr : meth.sig.returnType = some (.object n)) (hlk : meth.locks = false) (hf : (some (v, M) : Option (Nat × xM)) = some (r, M')) (hd : decode cc pc = .ok (.areturn, 1)) :
    WW p l e R s m args below meth c cells slots (MQ below (x_Qr D g tb k r M' s.heap.size) args s cells slots (x_A g tb s.heap.size)) nL D g tb pc lv [.ref (g.1 k v)] M := by
  cases hf
  intro H locs ls h1 h2 h3
  exact W.aret C0.1 C0.2.1 hr (Or.inl ⟨n, rfl⟩) (Or.inr ⟨_, rfl⟩) (fun t ht hW => ⟨⟨(), _, rfl, hm0, rfl, x_Bend C0 h1 h2 ht hW⟩, h2.F ht⟩) h2.2.2 hd hlk
theorem x_good {y : MethodName} {cc : ByteArray} {n : Nat} {ret : Option FieldType} (ws : List Cond) (h : ∀ w ∈ ws, w ∈ xA) (hc : Cond.code y cc n ret ∈ xA) : GoodIn xA (ws ++ ws_ y cc n ret) := by
  intro w hw
  have hm : w ∈ xA := by
    rcases List.mem_append.mp hw with h1 | h1
    · exact h w h1
    · rcases List.mem_cons.mp h1 with rfl | h2
      · exact hc
      · exact h2
  exact ⟨hm, good_of_word (xA_good hm)⟩
theorem x_goodV {own C : String} {idx : Nat} {y : MethodName} {cc : ByteArray} {n : Nat} {ret : Option FieldType} (h1 : Cond.methodLink own idx y ∈ xA) (h2 : Cond.instanceMethod y ∈ xA) (h3 : Cond.selects C y y ∈ xA) (h4 : Cond.initialized C ∈ xA) (h5 : Cond.code y cc n ret ∈ xA) : GoodIn xA (wsV own idx C y (ws_ y cc n ret)) :=
  x_good _ (by simp only [List.mem_cons, List.not_mem_nil, or_false]; rintro w (rfl | rfl | rfl | rfl) <;> assumption) h5
theorem x_goodS {own : String} {idx : Nat} {y : MethodName} {cc : ByteArray} {n : Nat} {ret : Option FieldType} (h1 : Cond.methodLink own idx y ∈ xA) (h2 : Cond.static y ∈ xA) (h4 : Cond.initialized y.cls ∈ xA) (h5 : Cond.code y cc n ret ∈ xA) : GoodIn xA (va_wsS own idx y (ws_ y cc n ret)) :=
  x_good _ (by simp only [List.mem_cons, List.not_mem_nil, or_false]; rintro w (rfl | rfl | rfl) <;> assumption) h5
theorem x_rec0 (C0 : CC p s m args c cc nL own D g tb) {b n : Nat} (hq : (0, b, n) ∈ tb) : ∀ (M : xM) (H : Heap) (locs : List Loc), x_H D g tb M H → va_S (x_A g tb s.heap.size) s.heap H locs → ∃ cell : Cell, H[g.1 0 b]? = some cell ∧ cell.vm.isStatics = false ∧ s.vm.findClass RX4 = some cell.cls := by
  intro M H locs h1 _
  obtain ⟨i, hi⟩ := List.getElem?_of_mem hq
  exact va_recv (q := (RX4, TX4, 9)) (ci := 3) C0.2.2.2.2.2.1 h1 rfl (x_ws_at hi)
theorem x_rec1 (C0 : CC p s m args c cc nL own D g tb) {b n : Nat} (hq : (1, b, n) ∈ tb) : ∀ (M : xM) (H : Heap) (locs : List Loc), x_H D g tb M H → va_S (x_A g tb s.heap.size) s.heap H locs → ∃ cell : Cell, H[g.1 1 b]? = some cell ∧ cell.vm.isStatics = false ∧ s.vm.findClass RX1 = some cell.cls := by
  intro M H locs h1 _
  obtain ⟨i, hi⟩ := List.getElem?_of_mem hq
  exact va_recv (q := (RX1, TX1, 8)) (ci := 0) C0.2.2.2.2.2.1 h1 rfl (x_ws_at hi)
theorem x_rec2 (C0 : CC p s m args c cc nL own D g tb) {b n : Nat} (hq : (2, b, n) ∈ tb) : ∀ (M : xM) (H : Heap) (locs : List Loc), x_H D g tb M H → va_S (x_A g tb s.heap.size) s.heap H locs → ∃ cell : Cell, H[g.1 2 b]? = some cell ∧ cell.vm.isStatics = false ∧ s.vm.findClass RX2 = some cell.cls := by
  intro M H locs h1 _
  obtain ⟨i, hi⟩ := List.getElem?_of_mem hq
  exact va_recv (q := (RX2, TX2, 14)) (ci := 1) C0.2.2.2.2.2.1 h1 rfl (x_ws_at hi)
theorem x_rec3 (C0 : CC p s m args c cc nL own D g tb) {b n : Nat} (hq : (3, b, n) ∈ tb) : ∀ (M : xM) (H : Heap) (locs : List Loc), x_H D g tb M H → va_S (x_A g tb s.heap.size) s.heap H locs → ∃ cell : Cell, H[g.1 3 b]? = some cell ∧ cell.vm.isStatics = false ∧ s.vm.findClass RX3 = some cell.cls := by
  intro M H locs h1 _
  obtain ⟨i, hi⟩ := List.getElem?_of_mem hq
  exact va_recv (q := (RX3, TX3, 10)) (ci := 2) C0.2.2.2.2.2.1 h1 rfl (x_ws_at hi)
theorem x_rec4 (C0 : CC p s m args c cc nL own D g tb) {b n : Nat} (hq : (4, b, n) ∈ tb) : ∀ (M : xM) (H : Heap) (locs : List Loc), x_H D g tb M H → va_S (x_A g tb s.heap.size) s.heap H locs → ∃ cell : Cell, H[g.1 4 b]? = some cell ∧ cell.vm.isStatics = false ∧ s.vm.findClass RX6 = some cell.cls := by
  intro M H locs h1 _
  obtain ⟨i, hi⟩ := List.getElem?_of_mem hq
  exact va_recv (q := (RX6, TX6, 11)) (ci := 4) C0.2.2.2.2.2.1 h1 rfl (x_ws_at hi)
theorem r_callVi (C0 : CC p s m args c cc nL own D g tb) {y : MethodName} {bytes : ByteArray} {maxL idx n : Nat} {rm : Room} {As rest stk : List Value} {C : String} {a : Nat} {ret : FieldType} {r : Int32} {M' : xM}
    (hM : cI l D g tb y bytes maxL ret rm (.ref a :: As) M r M') (w1 : Cond.methodLink own idx y ∈ xA) (w2 : Cond.instanceMethod y ∈ xA) (w3 : Cond.selects C y y ∈ xA) (w4 : Cond.initialized C ∈ xA) (w5 : Cond.code y bytes maxL (some ret) ∈ xA)
    (hrec : ∀ (M : xM) (H : Heap) (locs : List Loc), x_H D g tb M H → va_S (x_A g tb s.heap.size) s.heap H locs → ∃ cell : Cell, H[a]? = some cell ∧ cell.vm.isStatics = false ∧ s.vm.findClass C = some cell.cls)  (hdd : y.cls = C ∧ y.cls ≠ "java/lang/invoke/MethodHandle" ∧ y.cls ≠ "java/lang/invoke/VarHandle" ∧ (parseMethodDescriptor y.desc).map (fun d => d.parameters.length) = some n) (hn : As.length = n) (hrm : rm.cells = 0 ∧ rm.slots = 0) (hR : rm.frames + 1 ≤ R.frames ∧ 8 + (maxL + 11) + rm.locals ≤ R.locals) (hfc : cells + 0 ≤ R.cells) (hfs : slots + 0 ≤ R.slots)
    (hst : stk = As.reverse ++ .ref a :: rest) (hcat : (rest.map fun v => v.category).sum ≤ 8) (hd : decode cc pc = .ok (.invokevirtual idx, 3)) (k : WW p l e R s m args below meth c cells slots Q nL D g tb (pc + 3) lv (.int r :: rest) M') : WW p l e R s m args below meth c cells slots Q nL D g tb pc lv stk M := by
  intro H locs ls h1 h2 h3
  subst hst
  obtain ⟨hx, hb, hml, hown, hts, hK, hT, hKS⟩ := C0
  obtain ⟨hrc, hrs⟩ := hrm
  refine va_calli (va_runV (As := As) (rest := rest) ⟨hx, hb, hml, hown, hts⟩ (hM H.size) (cwV n hts (x_goodV w1 w2 w3 w4 w5) rfl hrc hrs hdd hR) ⟨x_blind, hrec M H _ h1 h2, fun U hU hW => ⟨rfl, by rw [hU], by rw [hU]; exact h1, va_K.moved hW.alike hK, x_KS.kept hKS h2 hU hW⟩⟩ rfl hn h3.1 rfl (lv_room hcat) hd ⟨hfc, hfs⟩) h2 (fun q _ hq => x_Aup h2.1 q hq) (fun q hq => x_Aup h2.1 q hq) ?_
  rintro r' u t H1 locs1 ht hvm rfl hB hz1 hk1 hS1
  exact k H1 locs1 ls (ht ▸ hB.1) hS1 h3
theorem r_callVv (C0 : CC p s m args c cc nL own D g tb) {y : MethodName} {bytes : ByteArray} {maxL idx n : Nat} {rm : Room} {As rest stk : List Value} {C : String} {a : Nat} {M' : xM}
    (hM : cV l D g tb y bytes maxL  rm (.ref a :: As) M M') (w1 : Cond.methodLink own idx y ∈ xA) (w2 : Cond.instanceMethod y ∈ xA) (w3 : Cond.selects C y y ∈ xA) (w4 : Cond.initialized C ∈ xA) (w5 : Cond.code y bytes maxL none ∈ xA)
    (hrec : ∀ (M : xM) (H : Heap) (locs : List Loc), x_H D g tb M H → va_S (x_A g tb s.heap.size) s.heap H locs → ∃ cell : Cell, H[a]? = some cell ∧ cell.vm.isStatics = false ∧ s.vm.findClass C = some cell.cls)  (hdd : y.cls = C ∧ y.cls ≠ "java/lang/invoke/MethodHandle" ∧ y.cls ≠ "java/lang/invoke/VarHandle" ∧ (parseMethodDescriptor y.desc).map (fun d => d.parameters.length) = some n) (hn : As.length = n) (hrm : rm.cells = 0 ∧ rm.slots = 0) (hR : rm.frames + 1 ≤ R.frames ∧ 8 + (maxL + 11) + rm.locals ≤ R.locals) (hfc : cells + 0 ≤ R.cells) (hfs : slots + 0 ≤ R.slots)
    (hst : stk = As.reverse ++ .ref a :: rest) (hcat : (rest.map fun v => v.category).sum ≤ 8) (hd : decode cc pc = .ok (.invokevirtual idx, 3)) (k : WW p l e R s m args below meth c cells slots Q nL D g tb (pc + 3) lv rest M') : WW p l e R s m args below meth c cells slots Q nL D g tb pc lv stk M := by
  intro H locs ls h1 h2 h3
  subst hst
  obtain ⟨hx, hb, hml, hown, hts, hK, hT, hKS⟩ := C0
  obtain ⟨hrc, hrs⟩ := hrm
  refine va_callv (va_runV (As := As) (rest := rest) ⟨hx, hb, hml, hown, hts⟩ (hM H.size) (cwV n hts (x_goodV w1 w2 w3 w4 w5) rfl hrc hrs hdd hR) ⟨x_blind, hrec M H _ h1 h2, fun U hU hW => ⟨rfl, by rw [hU], by rw [hU]; exact h1, va_K.moved hW.alike hK, x_KS.kept hKS h2 hU hW⟩⟩ rfl hn h3.1 rfl (lv_room hcat) hd ⟨hfc, hfs⟩) h2 (fun q _ hq => x_Aup h2.1 q hq) (fun q hq => x_Aup h2.1 q hq) ?_
  rintro u t H1 locs1 ht hvm - hB hz1 hk1 hS1
  exact k H1 locs1 ls (ht ▸ hB.1) hS1 h3
theorem r_callVr (C0 : CC p s m args c cc nL own D g tb) {y : MethodName} {bytes : ByteArray} {maxL idx n : Nat} {rm : Room} {As rest stk : List Value} {C : String} {a : Nat} {ret : FieldType} {kd r : Nat} {M' : xM}
    (hM : cR l D g tb y bytes maxL ret kd rm (.ref a :: As) M r M') (w1 : Cond.methodLink own idx y ∈ xA) (w2 : Cond.instanceMethod y ∈ xA) (w3 : Cond.selects C y y ∈ xA) (w4 : Cond.initialized C ∈ xA) (w5 : Cond.code y bytes maxL (some ret) ∈ xA)
    (hrec : ∀ (M : xM) (H : Heap) (locs : List Loc), x_H D g tb M H → va_S (x_A g tb s.heap.size) s.heap H locs → ∃ cell : Cell, H[a]? = some cell ∧ cell.vm.isStatics = false ∧ s.vm.findClass C = some cell.cls)  (hdd : y.cls = C ∧ y.cls ≠ "java/lang/invoke/MethodHandle" ∧ y.cls ≠ "java/lang/invoke/VarHandle" ∧ (parseMethodDescriptor y.desc).map (fun d => d.parameters.length) = some n) (hn : As.length = n) (hrm : rm.cells = 0 ∧ rm.slots = 0) (hR : rm.frames + 1 ≤ R.frames ∧ 8 + (maxL + 11) + rm.locals ≤ R.locals) (hfc : cells + 0 ≤ R.cells) (hfs : slots + 0 ≤ R.slots)
    (hst : stk = As.reverse ++ .ref a :: rest) (hcat : (rest.map fun v => v.category).sum ≤ 8) (hd : decode cc pc = .ok (.invokevirtual idx, 3)) (k : ((kd, r, 0) : xQ) ∈ tb → WW p l e R s m args below meth c cells slots Q nL D g tb (pc + 3) lv (.ref (g.1 kd r) :: rest) M') : WW p l e R s m args below meth c cells slots Q nL D g tb pc lv stk M := by
  intro H locs ls h1 h2 h3
  subst hst
  obtain ⟨hx, hb, hml, hown, hts, hK, hT, hKS⟩ := C0
  obtain ⟨hrc, hrs⟩ := hrm
  refine va_callr (va_runV (As := As) (rest := rest) ⟨hx, hb, hml, hown, hts⟩ (hM H.size) (cwV n hts (x_goodV w1 w2 w3 w4 w5) rfl hrc hrs hdd hR) ⟨x_blind, hrec M H _ h1 h2, fun U hU hW => ⟨rfl, by rw [hU], by rw [hU]; exact h1, va_K.moved hW.alike hK, x_KS.kept hKS h2 hU hW⟩⟩ rfl hn h3.1 rfl (lv_room hcat) hd ⟨hfc, hfs⟩) h2 (fun q _ hq => x_Aup h2.1 q hq) (fun q hq => x_Aup h2.1 q hq) ?_
  rintro u ra t H1 locs1 ht hvm hm0 hB hz1 hk1 hS1
  obtain ⟨rfl, hB⟩ := hB
  exact k hm0 H1 locs1 ls (ht ▸ hB.1) hS1 h3
theorem r_callSi (C0 : CC p s m args c cc nL own D g tb) {y : MethodName} {bytes : ByteArray} {maxL idx n : Nat} {rm : Room} {As rest stk : List Value} {ret : FieldType} {r : Int32} {M' : xM}
    (hM : cI l D g tb y bytes maxL ret rm (As) M r M') (w1 : Cond.methodLink own idx y ∈ xA) (w2 : Cond.static y ∈ xA) (w4 : Cond.initialized y.cls ∈ xA) (w5 : Cond.code y bytes maxL (some ret) ∈ xA)
     (hdd : y.cls ≠ "java/lang/invoke/MethodHandle" ∧ y.cls ≠ "java/lang/invoke/VarHandle" ∧ (parseMethodDescriptor y.desc).map (fun d => d.parameters.length) = some n) (hn : As.length = n) (hrm : rm.cells = 0 ∧ rm.slots = 0) (hR : rm.frames + 1 ≤ R.frames ∧ 8 + (maxL + 11) + rm.locals ≤ R.locals) (hfc : cells + 0 ≤ R.cells) (hfs : slots + 0 ≤ R.slots)
    (hst : stk = As.reverse ++ rest) (hcat : (rest.map fun v => v.category).sum ≤ 8) (hd : decode cc pc = .ok (.invokestatic idx, 3)) (k : WW p l e R s m args below meth c cells slots Q nL D g tb (pc + 3) lv (.int r :: rest) M') : WW p l e R s m args below meth c cells slots Q nL D g tb pc lv stk M := by
  intro H locs ls h1 h2 h3
  subst hst
  obtain ⟨hx, hb, hml, hown, hts, hK, hT, hKS⟩ := C0
  obtain ⟨hrc, hrs⟩ := hrm
  refine va_calli (va_runS (As := As) (rest := rest) ⟨hx, hb, hml, hown, hts⟩ (hM H.size) (va_cwS n hts (x_goodS w1 w2 w4 w5) rfl hrc hrs hdd hR) ⟨x_blind, fun U hU hW => ⟨rfl, by rw [hU], by rw [hU]; exact h1, va_K.moved hW.alike hK, x_KS.kept hKS h2 hU hW⟩⟩ rfl hn h3.1 rfl (lv_room hcat) hd ⟨hfc, hfs⟩) h2 (fun q _ hq => x_Aup h2.1 q hq) (fun q hq => x_Aup h2.1 q hq) ?_
  rintro r' u t H1 locs1 ht hvm rfl hB hz1 hk1 hS1
  exact k H1 locs1 ls (ht ▸ hB.1) hS1 h3
theorem r_callSv (C0 : CC p s m args c cc nL own D g tb) {y : MethodName} {bytes : ByteArray} {maxL idx n : Nat} {rm : Room} {As rest stk : List Value} {M' : xM}
    (hM : cV l D g tb y bytes maxL  rm (As) M M') (w1 : Cond.methodLink own idx y ∈ xA) (w2 : Cond.static y ∈ xA) (w4 : Cond.initialized y.cls ∈ xA) (w5 : Cond.code y bytes maxL none ∈ xA)
     (hdd : y.cls ≠ "java/lang/invoke/MethodHandle" ∧ y.cls ≠ "java/lang/invoke/VarHandle" ∧ (parseMethodDescriptor y.desc).map (fun d => d.parameters.length) = some n) (hn : As.length = n) (hrm : rm.cells = 0 ∧ rm.slots = 0) (hR : rm.frames + 1 ≤ R.frames ∧ 8 + (maxL + 11) + rm.locals ≤ R.locals) (hfc : cells + 0 ≤ R.cells) (hfs : slots + 0 ≤ R.slots)
    (hst : stk = As.reverse ++ rest) (hcat : (rest.map fun v => v.category).sum ≤ 8) (hd : decode cc pc = .ok (.invokestatic idx, 3)) (k : WW p l e R s m args below meth c cells slots Q nL D g tb (pc + 3) lv rest M') : WW p l e R s m args below meth c cells slots Q nL D g tb pc lv stk M := by
  intro H locs ls h1 h2 h3
  subst hst
  obtain ⟨hx, hb, hml, hown, hts, hK, hT, hKS⟩ := C0
  obtain ⟨hrc, hrs⟩ := hrm
  refine va_callv (va_runS (As := As) (rest := rest) ⟨hx, hb, hml, hown, hts⟩ (hM H.size) (va_cwS n hts (x_goodS w1 w2 w4 w5) rfl hrc hrs hdd hR) ⟨x_blind, fun U hU hW => ⟨rfl, by rw [hU], by rw [hU]; exact h1, va_K.moved hW.alike hK, x_KS.kept hKS h2 hU hW⟩⟩ rfl hn h3.1 rfl (lv_room hcat) hd ⟨hfc, hfs⟩) h2 (fun q _ hq => x_Aup h2.1 q hq) (fun q hq => x_Aup h2.1 q hq) ?_
  rintro u t H1 locs1 ht hvm - hB hz1 hk1 hS1
  exact k H1 locs1 ls (ht ▸ hB.1) hS1 h3
theorem r_callSr (C0 : CC p s m args c cc nL own D g tb) {y : MethodName} {bytes : ByteArray} {maxL idx n : Nat} {rm : Room} {As rest stk : List Value} {ret : FieldType} {kd r : Nat} {M' : xM}
    (hM : cR l D g tb y bytes maxL ret kd rm (As) M r M') (w1 : Cond.methodLink own idx y ∈ xA) (w2 : Cond.static y ∈ xA) (w4 : Cond.initialized y.cls ∈ xA) (w5 : Cond.code y bytes maxL (some ret) ∈ xA)
     (hdd : y.cls ≠ "java/lang/invoke/MethodHandle" ∧ y.cls ≠ "java/lang/invoke/VarHandle" ∧ (parseMethodDescriptor y.desc).map (fun d => d.parameters.length) = some n) (hn : As.length = n) (hrm : rm.cells = 0 ∧ rm.slots = 0) (hR : rm.frames + 1 ≤ R.frames ∧ 8 + (maxL + 11) + rm.locals ≤ R.locals) (hfc : cells + 0 ≤ R.cells) (hfs : slots + 0 ≤ R.slots)
    (hst : stk = As.reverse ++ rest) (hcat : (rest.map fun v => v.category).sum ≤ 8) (hd : decode cc pc = .ok (.invokestatic idx, 3)) (k : ((kd, r, 0) : xQ) ∈ tb → WW p l e R s m args below meth c cells slots Q nL D g tb (pc + 3) lv (.ref (g.1 kd r) :: rest) M') : WW p l e R s m args below meth c cells slots Q nL D g tb pc lv stk M := by
  intro H locs ls h1 h2 h3
  subst hst
  obtain ⟨hx, hb, hml, hown, hts, hK, hT, hKS⟩ := C0
  obtain ⟨hrc, hrs⟩ := hrm
  refine va_callr (va_runS (As := As) (rest := rest) ⟨hx, hb, hml, hown, hts⟩ (hM H.size) (va_cwS n hts (x_goodS w1 w2 w4 w5) rfl hrc hrs hdd hR) ⟨x_blind, fun U hU hW => ⟨rfl, by rw [hU], by rw [hU]; exact h1, va_K.moved hW.alike hK, x_KS.kept hKS h2 hU hW⟩⟩ rfl hn h3.1 rfl (lv_room hcat) hd ⟨hfc, hfs⟩) h2 (fun q _ hq => x_Aup h2.1 q hq) (fun q hq => x_Aup h2.1 q hq) ?_
  rintro u ra t H1 locs1 ht hvm hm0 hB hz1 hk1 hS1
  obtain ⟨rfl, hB⟩ := hB
  exact k hm0 H1 locs1 ls (ht ▸ hB.1) hS1 h3
end XE
/-! what the mirrors are made of -/
def gd {α : Type} (c : Bool) (x : Option α) : Option α := match c with
  | true => x
  | false => none
theorem gd_e {α : Type} {c : Bool} {x : Option α} {r : α} (h : gd c x = some r) : c = true ∧ x = some r := by
  cases c
  · cases h
  · exact ⟨rfl, h⟩
theorem gd_t {α : Type} {c : Bool} {x : Option α} (h : c = true) : gd c x = x := by rw [h]; rfl
def bd {α β : Type} (o : Option α) (f : α → Option β) : Option β := match o with
  | some a => f a
  | none => none
theorem bd_e {α β : Type} {o : Option α} {f : α → Option β} {r : β} (h : bd o f = some r) : ∃ a, o = some a ∧ f a = some r := by
  cases o with
  | none => cases h
  | some a => exact ⟨a, rfl, h⟩
theorem bd_s {α β : Type} {o : Option α} {f : α → Option β} {a : α} (h : o = some a) : bd o f = f a := by rw [h]; rfl
def bd2 {α γ β : Type} (o : Option (α × γ)) (f : α → γ → Option β) : Option β := match o with
  | some q => f q.1 q.2
  | none => none
theorem bd2_e {α γ β : Type} {o : Option (α × γ)} {f : α → γ → Option β} {r : β} (h : bd2 o f = some r) : ∃ a b, o = some (a, b) ∧ f a b = some r := by
  cases o with
  | none => cases h
  | some q => exact ⟨q.1, q.2, rfl, h⟩
theorem bd2_s {α γ β : Type} {o : Option (α × γ)} {f : α → γ → Option β} {a : α} {b : γ} (h : o = some (a, b)) : bd2 o f = f a b := by rw [h]; rfl
theorem ie_t {α : Sort _} {c : Prop} [Decidable c] {a b r : α} (h : (if c then a else b) = r) (hc : c) : a = r := (if_pos hc).symm.trans h
theorem ie_f {α : Sort _} {c : Prop} [Decidable c] {a b r : α} (h : (if c then a else b) = r) (hc : ¬ c) : b = r := (if_neg hc).symm.trans h
def inb (i : Int32) (n : Nat) : Bool := decide (0 ≤ i.toInt) && decide (i.toInt < n)
theorem inb_in {i : Int32} {n : Nat} (h : inb i n = true) : vp_in i n := by
  unfold inb at h
  simp only [Bool.and_eq_true, decide_eq_true_eq] at h
  exact vp_in_iff.mpr h
theorem inb_lt {i : Int32} {n : Nat} (h : inb i n = true) : i.toNatClampNeg < n := Nat.not_le.mp fun q => inb_in h (Or.inr q)
/-- enough rounds for every loop -/
def FU : Nat := 4096
