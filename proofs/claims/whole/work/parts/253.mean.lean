/-! meanPaid, spoiledShare: a double, a float; no draw -/
def x_Qd (D : va_G) (g : xG) (tb : List xQ) (r : UInt64) (M : xM) (sz : Nat) : Array Value → State → Outcome → State → Prop := va_Qd (fun r' (_ : Unit) => r' = r) (fun _ t => x_B D g tb M t) (x_A g tb sz)
def x_Qf (D : va_G) (g : xG) (tb : List xQ) (r : UInt32) (M : xM) (sz : Nat) : Array Value → State → Outcome → State → Prop := va_Qf (fun r' (_ : Unit) => r' = r) (fun _ t => x_B D g tb M t) (x_A g tb sz)
def cD (l : Launch) (D : va_G) (g : xG) (tb : List xQ) (y : MethodName) (cc : ByteArray) (nL : Nat) (rm : Room) (as : List Value) (M : xM) (r : UInt64) (M' : xM) : Prop :=
  ∀ sz, Met l y (ws_ y cc nL (some .double)) rm (va_Pc as (fun U => U.heap.size = sz ∧ x_B D g tb M U)) (x_Qd D g tb r M' sz) 0 0 (x_A g tb sz)
def cF (l : Launch) (D : va_G) (g : xG) (tb : List xQ) (y : MethodName) (cc : ByteArray) (nL : Nat) (rm : Room) (as : List Value) (M : xM) (r : UInt32) (M' : xM) : Prop :=
  ∀ sz, Met l y (ws_ y cc nL (some .float)) rm (va_Pc as (fun U => U.heap.size = sz ∧ x_B D g tb M U)) (x_Qf D g tb r M' sz) 0 0 (x_A g tb sz)
def dq (n d : Int32) : UInt64 := if d = 0 then FP.dconst0 else FP.ddiv (FP.i2d n) (FP.i2d d)
def fq (n d : Int32) : UInt32 := if d = 0 then FP.fconst0 else FP.fdiv (FP.i2f n) (FP.i2f d)
section XQD
variable {p : Program} {l : Launch} {e : Env} {R : Room} {s : State} {m : MethodId} {args : Array Value} {below : List Frame} {meth : Method} {c : Code} {cells slots : Nat} {Q : State → Prop}
variable {cc : ByteArray} {nL : Nat} {own : String} {D : va_G} {g : xG} {tb : List xQ} {pc : Nat} {lv : List (Nat × Value)} {st : List Value} {M : xM}
theorem r_dret (C0 : CC p s m args c cc nL own D g tb) {v r : UInt64} {M' : xM} (hr : meth.sig.returnType = some .double) (hlk : meth.locks = false) (hf : v = r ∧ M = M') (hd : decode cc pc = .ok (.dreturn, 1)) :
    WW p l e R s m args below meth c cells slots (MQ below (x_Qd D g tb r M' s.heap.size) args s cells slots (x_A g tb s.heap.size)) nL D g tb pc lv [.double v] M := by
  obtain ⟨rfl, rfl⟩ := hf
  intro H locs ls h1 h2 h3
  exact W.dret C0.1 C0.2.1 hr (fun t ht hW => ⟨⟨v, (), rfl, rfl, x_Bend C0 h1 h2 ht hW⟩, h2.F ht⟩) h2.2.2 hd hlk
theorem r_fret (C0 : CC p s m args c cc nL own D g tb) {v r : UInt32} {M' : xM} (hr : meth.sig.returnType = some .float) (hlk : meth.locks = false) (hf : v = r ∧ M = M') (hd : decode cc pc = .ok (.freturn, 1)) :
    WW p l e R s m args below meth c cells slots (MQ below (x_Qf D g tb r M' s.heap.size) args s cells slots (x_A g tb s.heap.size)) nL D g tb pc lv [.float v] M := by
  obtain ⟨rfl, rfl⟩ := hf
  intro H locs ls h1 h2 h3
  exact W.fret C0.1 C0.2.1 hr (fun t ht hW => ⟨⟨v, (), rfl, rfl, x_Bend C0 h1 h2 ht hW⟩, h2.F ht⟩) h2.2.2 hd hlk
theorem r_dconst0 (C0 : CC p s m args c cc nL own D g tb) (hd : decode cc pc = .ok (.dconst 0, 1)) (k : WW p l e R s m args below meth c cells slots Q nL D g tb (pc + 1) lv (.double FP.dconst0 :: st) M) : WW p l e R s m args below meth c cells slots Q nL D g tb pc lv (st) M := fun H locs ls h1 h2 h3 => lv_dconst0 C0.1 C0.2.1 hd (k H locs ls h1 h2 h3)
theorem r_fconst0 (C0 : CC p s m args c cc nL own D g tb) (hd : decode cc pc = .ok (.fconst 0, 1)) (k : WW p l e R s m args below meth c cells slots Q nL D g tb (pc + 1) lv (.float FP.fconst0 :: st) M) : WW p l e R s m args below meth c cells slots Q nL D g tb pc lv (st) M := fun H locs ls h1 h2 h3 => lv_fconst0 C0.1 C0.2.1 hd (k H locs ls h1 h2 h3)
theorem r_i2d (C0 : CC p s m args c cc nL own D g tb) {x : Int32} (hd : decode cc pc = .ok (.i2d, 1)) (k : WW p l e R s m args below meth c cells slots Q nL D g tb (pc + 1) lv (.double (FP.i2d x) :: st) M) : WW p l e R s m args below meth c cells slots Q nL D g tb pc lv (.int x :: st) M := fun H locs ls h1 h2 h3 => lv_i2d C0.1 C0.2.1 hd (k H locs ls h1 h2 h3)
theorem r_i2f (C0 : CC p s m args c cc nL own D g tb) {x : Int32} (hd : decode cc pc = .ok (.i2f, 1)) (k : WW p l e R s m args below meth c cells slots Q nL D g tb (pc + 1) lv (.float (FP.i2f x) :: st) M) : WW p l e R s m args below meth c cells slots Q nL D g tb pc lv (.int x :: st) M := fun H locs ls h1 h2 h3 => lv_i2f C0.1 C0.2.1 hd (k H locs ls h1 h2 h3)
theorem r_ddiv (C0 : CC p s m args c cc nL own D g tb) {x y : UInt64} (hne : vf_n64 (FP.ddiv x y)) (hd : decode cc pc = .ok (.ddiv, 1)) (k : WW p l e R s m args below meth c cells slots Q nL D g tb (pc + 1) lv (.double (FP.ddiv x y) :: st) M) : WW p l e R s m args below meth c cells slots Q nL D g tb pc lv (.double y :: .double x :: st) M := fun H locs ls h1 h2 h3 => lv_ddiv C0.1 C0.2.1 hd hne (k H locs ls h1 h2 h3)
theorem r_fdiv (C0 : CC p s m args c cc nL own D g tb) {x y : UInt32} (hne : vf_n32 (FP.fdiv x y)) (hd : decode cc pc = .ok (.fdiv, 1)) (k : WW p l e R s m args below meth c cells slots Q nL D g tb (pc + 1) lv (.float (FP.fdiv x y) :: st) M) : WW p l e R s m args below meth c cells slots Q nL D g tb pc lv (.float y :: .float x :: st) M := fun H locs ls h1 h2 h3 => lv_fdiv C0.1 C0.2.1 hd hne (k H locs ls h1 h2 h3)
theorem r_callVd (C0 : CC p s m args c cc nL own D g tb) {y : MethodName} {bytes : ByteArray} {maxL idx n : Nat} {rm : Room} {As rest stk : List Value} {C : String} {a : Nat} {r : UInt64} {M' : xM}
    (hM : cD l D g tb y bytes maxL rm (.ref a :: As) M r M') (w1 : Cond.methodLink own idx y ∈ xA) (w2 : Cond.instanceMethod y ∈ xA) (w3 : Cond.selects C y y ∈ xA) (w4 : Cond.initialized C ∈ xA) (w5 : Cond.code y bytes maxL (some .double) ∈ xA)
    (hrec : ∀ (M : xM) (H : Heap) (locs : List Loc), x_H D g tb M H → va_S (x_A g tb s.heap.size) s.heap H locs → ∃ cell : Cell, H[a]? = some cell ∧ cell.vm.isStatics = false ∧ s.vm.findClass C = some cell.cls)  (hdd : y.cls = C ∧ y.cls ≠ "java/lang/invoke/MethodHandle" ∧ y.cls ≠ "java/lang/invoke/VarHandle" ∧ (parseMethodDescriptor y.desc).map (fun d => d.parameters.length) = some n) (hn : As.length = n) (hrm : rm.cells = 0 ∧ rm.slots = 0) (hR : rm.frames + 1 ≤ R.frames ∧ 8 + (maxL + 11) + rm.locals ≤ R.locals) (hfc : cells + 0 ≤ R.cells) (hfs : slots + 0 ≤ R.slots)
    (hst : stk = As.reverse ++ .ref a :: rest) (hcat : (rest.map fun v => v.category).sum ≤ 8) (hd : decode cc pc = .ok (.invokevirtual idx, 3)) (k : WW p l e R s m args below meth c cells slots Q nL D g tb (pc + 3) lv (.double r :: rest) M') : WW p l e R s m args below meth c cells slots Q nL D g tb pc lv stk M := by
  intro H locs ls h1 h2 h3
  subst hst
  obtain ⟨hx, hb, hml, hown, hts, hK, hT, hKS⟩ := C0
  obtain ⟨hrc, hrs⟩ := hrm
  refine va_calld (va_runV (As := As) (rest := rest) ⟨hx, hb, hml, hown, hts⟩ (hM H.size) (cwV n hts (x_goodV w1 w2 w3 w4 w5) rfl hrc hrs hdd hR) ⟨x_blind, hrec M H _ h1 h2, fun U hU hW => ⟨rfl, by rw [hU], by rw [hU]; exact h1, va_K.moved hW.alike hK, x_KS.kept hKS h2 hU hW⟩⟩ rfl hn h3.1 rfl (lv_room hcat) hd ⟨hfc, hfs⟩) h2 (fun q _ hq => x_Aup h2.1 q hq) (fun q hq => x_Aup h2.1 q hq) ?_
  rintro r' u t H1 locs1 ht hvm rfl hB hz1 hk1 hS1
  exact k H1 locs1 ls (ht ▸ hB.1) hS1 h3
theorem r_callVf (C0 : CC p s m args c cc nL own D g tb) {y : MethodName} {bytes : ByteArray} {maxL idx n : Nat} {rm : Room} {As rest stk : List Value} {C : String} {a : Nat} {r : UInt32} {M' : xM}
    (hM : cF l D g tb y bytes maxL rm (.ref a :: As) M r M') (w1 : Cond.methodLink own idx y ∈ xA) (w2 : Cond.instanceMethod y ∈ xA) (w3 : Cond.selects C y y ∈ xA) (w4 : Cond.initialized C ∈ xA) (w5 : Cond.code y bytes maxL (some .float) ∈ xA)
    (hrec : ∀ (M : xM) (H : Heap) (locs : List Loc), x_H D g tb M H → va_S (x_A g tb s.heap.size) s.heap H locs → ∃ cell : Cell, H[a]? = some cell ∧ cell.vm.isStatics = false ∧ s.vm.findClass C = some cell.cls)  (hdd : y.cls = C ∧ y.cls ≠ "java/lang/invoke/MethodHandle" ∧ y.cls ≠ "java/lang/invoke/VarHandle" ∧ (parseMethodDescriptor y.desc).map (fun d => d.parameters.length) = some n) (hn : As.length = n) (hrm : rm.cells = 0 ∧ rm.slots = 0) (hR : rm.frames + 1 ≤ R.frames ∧ 8 + (maxL + 11) + rm.locals ≤ R.locals) (hfc : cells + 0 ≤ R.cells) (hfs : slots + 0 ≤ R.slots)
    (hst : stk = As.reverse ++ .ref a :: rest) (hcat : (rest.map fun v => v.category).sum ≤ 8) (hd : decode cc pc = .ok (.invokevirtual idx, 3)) (k : WW p l e R s m args below meth c cells slots Q nL D g tb (pc + 3) lv (.float r :: rest) M') : WW p l e R s m args below meth c cells slots Q nL D g tb pc lv stk M := by
  intro H locs ls h1 h2 h3
  subst hst
  obtain ⟨hx, hb, hml, hown, hts, hK, hT, hKS⟩ := C0
  obtain ⟨hrc, hrs⟩ := hrm
  refine va_callf (va_runV (As := As) (rest := rest) ⟨hx, hb, hml, hown, hts⟩ (hM H.size) (cwV n hts (x_goodV w1 w2 w3 w4 w5) rfl hrc hrs hdd hR) ⟨x_blind, hrec M H _ h1 h2, fun U hU hW => ⟨rfl, by rw [hU], by rw [hU]; exact h1, va_K.moved hW.alike hK, x_KS.kept hKS h2 hU hW⟩⟩ rfl hn h3.1 rfl (lv_room hcat) hd ⟨hfc, hfs⟩) h2 (fun q _ hq => x_Aup h2.1 q hq) (fun q hq => x_Aup h2.1 q hq) ?_
  rintro r' u t H1 locs1 ht hvm rfl hB hz1 hk1 hS1
  exact k H1 locs1 ls (ht ▸ hB.1) hS1 h3
end XQD
theorem x_startD {l : Launch} {D : va_G} {g : xG} {tb : List xQ} {M M' : xM} {y : MethodName} {cc : ByteArray} {nL : Nat} {rm : Room} {as : List Value} {own : String} {lv : List (Nat × Value)} {r : UInt64}
    (hy : plainName y.cls = true) (hown' : y.cls = own) (hlv : lv_args 0 as = lv) (hln : (lg_sl as).length ≤ nL) (hT : x_T g tb)
    (body : ∀ (p : Program) (e : Env) (s : State) (m : MethodId) (args : Array Value) (below : List Frame) (meth : Method) (c : Code) (Q : State → Prop), CC p s m args c cc nL own D g tb → (∀ {pc : Nat} {lv : List (Nat × Value)} {v : UInt64} {M0 : xM}, v = r ∧ M0 = M' → decode cc pc = .ok (.dreturn, 1) → WW p l e rm s m args below meth c 0 0 Q nL D g tb pc lv [.double v] M0) → WW p l e rm s m args below meth c 0 0 Q nL D g tb 0 lv [] M) : cD l D g tb y cc nL rm as M r M' := by
  intro sz
  refine x_start hy hown' hlv hln hT ?_
  rintro p e s m below meth c rfl C0 hr hlk
  exact body p e s m _ below meth c _ C0 (fun hf hd => r_dret C0 hr hlk hf hd)
theorem x_startF {l : Launch} {D : va_G} {g : xG} {tb : List xQ} {M M' : xM} {y : MethodName} {cc : ByteArray} {nL : Nat} {rm : Room} {as : List Value} {own : String} {lv : List (Nat × Value)} {r : UInt32}
    (hy : plainName y.cls = true) (hown' : y.cls = own) (hlv : lv_args 0 as = lv) (hln : (lg_sl as).length ≤ nL) (hT : x_T g tb)
    (body : ∀ (p : Program) (e : Env) (s : State) (m : MethodId) (args : Array Value) (below : List Frame) (meth : Method) (c : Code) (Q : State → Prop), CC p s m args c cc nL own D g tb → (∀ {pc : Nat} {lv : List (Nat × Value)} {v : UInt32} {M0 : xM}, v = r ∧ M0 = M' → decode cc pc = .ok (.freturn, 1) → WW p l e rm s m args below meth c 0 0 Q nL D g tb pc lv [.float v] M0) → WW p l e rm s m args below meth c 0 0 Q nL D g tb 0 lv [] M) : cF l D g tb y cc nL rm as M r M' := by
  intro sz
  refine x_start hy hown' hlv hln hT ?_
  rintro p e s m below meth c rfl C0 hr hlk
  exact body p e s m _ below meth c _ C0 (fun hf hd => r_fret C0 hr hlk hf hd)
theorem dX6_meanPaid_0 : decode cX6_meanPaid 0 = .ok (.aload_n 0, 1) := by decide +kernel
theorem dX6_meanPaid_1 : decode cX6_meanPaid 1 = .ok (.getfield 10, 3) := by decide +kernel
theorem dX6_meanPaid_4 : decode cX6_meanPaid 4 = .ok (.invokevirtual 273, 3) := by decide +kernel
theorem dX6_meanPaid_7 : decode cX6_meanPaid 7 = .ok (.istore_n 1, 1) := by decide +kernel
theorem dX6_meanPaid_8 : decode cX6_meanPaid 8 = .ok (.iload_n 1, 1) := by decide +kernel
theorem dX6_meanPaid_9 : decode cX6_meanPaid 9 = .ok (.ifCond .ne 5, 3) := by decide +kernel
theorem dX6_meanPaid_12 : decode cX6_meanPaid 12 = .ok (.dconst 0, 1) := by decide +kernel
theorem dX6_meanPaid_13 : decode cX6_meanPaid 13 = .ok (.dreturn, 1) := by decide +kernel
theorem dX6_meanPaid_14 : decode cX6_meanPaid 14 = .ok (.aload_n 0, 1) := by decide +kernel
theorem dX6_meanPaid_15 : decode cX6_meanPaid 15 = .ok (.getfield 10, 3) := by decide +kernel
theorem dX6_meanPaid_18 : decode cX6_meanPaid 18 = .ok (.invokevirtual 262, 3) := by decide +kernel
theorem dX6_meanPaid_21 : decode cX6_meanPaid 21 = .ok (.i2d, 1) := by decide +kernel
theorem dX6_meanPaid_22 : decode cX6_meanPaid 22 = .ok (.iload_n 1, 1) := by decide +kernel
theorem dX6_meanPaid_23 : decode cX6_meanPaid 23 = .ok (.i2d, 1) := by decide +kernel
theorem dX6_meanPaid_24 : decode cX6_meanPaid 24 = .ok (.ddiv, 1) := by decide +kernel
theorem dX6_meanPaid_25 : decode cX6_meanPaid 25 = .ok (.dreturn, 1) := by decide +kernel
theorem hd_X6_meanPaid : yX6_meanPaid.cls = RX6 ∧ yX6_meanPaid.cls ≠ "java/lang/invoke/MethodHandle" ∧ yX6_meanPaid.cls ≠ "java/lang/invoke/VarHandle" ∧ (parseMethodDescriptor yX6_meanPaid.desc).map (fun d => d.parameters.length) = some 0 := by decide +kernel
theorem dX6_spoiledShare_0 : decode cX6_spoiledShare 0 = .ok (.iconst 0, 1) := by decide +kernel
theorem dX6_spoiledShare_1 : decode cX6_spoiledShare 1 = .ok (.istore_n 1, 1) := by decide +kernel
theorem dX6_spoiledShare_2 : decode cX6_spoiledShare 2 = .ok (.iconst 0, 1) := by decide +kernel
theorem dX6_spoiledShare_3 : decode cX6_spoiledShare 3 = .ok (.istore_n 2, 1) := by decide +kernel
theorem dX6_spoiledShare_4 : decode cX6_spoiledShare 4 = .ok (.iconst 0, 1) := by decide +kernel
theorem dX6_spoiledShare_5 : decode cX6_spoiledShare 5 = .ok (.istore_n 3, 1) := by decide +kernel
theorem dX6_spoiledShare_6 : decode cX6_spoiledShare 6 = .ok (.iload_n 3, 1) := by decide +kernel
theorem dX6_spoiledShare_7 : decode cX6_spoiledShare 7 = .ok (.aload_n 0, 1) := by decide +kernel
theorem dX6_spoiledShare_8 : decode cX6_spoiledShare 8 = .ok (.getfield 10, 3) := by decide +kernel
theorem dX6_spoiledShare_11 : decode cX6_spoiledShare 11 = .ok (.getfield 66, 3) := by decide +kernel
theorem dX6_spoiledShare_14 : decode cX6_spoiledShare 14 = .ok (.if_icmp .ge 39, 3) := by decide +kernel
theorem dX6_spoiledShare_17 : decode cX6_spoiledShare 17 = .ok (.iload_n 1, 1) := by decide +kernel
theorem dX6_spoiledShare_18 : decode cX6_spoiledShare 18 = .ok (.aload_n 0, 1) := by decide +kernel
theorem dX6_spoiledShare_19 : decode cX6_spoiledShare 19 = .ok (.getfield 10, 3) := by decide +kernel
theorem dX6_spoiledShare_22 : decode cX6_spoiledShare 22 = .ok (.getfield 192, 3) := by decide +kernel
theorem dX6_spoiledShare_25 : decode cX6_spoiledShare 25 = .ok (.iload_n 3, 1) := by decide +kernel
theorem dX6_spoiledShare_26 : decode cX6_spoiledShare 26 = .ok (.aaload, 1) := by decide +kernel
theorem dX6_spoiledShare_27 : decode cX6_spoiledShare 27 = .ok (.getfield 265, 3) := by decide +kernel
theorem dX6_spoiledShare_30 : decode cX6_spoiledShare 30 = .ok (.iadd, 1) := by decide +kernel
theorem dX6_spoiledShare_31 : decode cX6_spoiledShare 31 = .ok (.istore_n 1, 1) := by decide +kernel
theorem dX6_spoiledShare_32 : decode cX6_spoiledShare 32 = .ok (.iload_n 2, 1) := by decide +kernel
theorem dX6_spoiledShare_33 : decode cX6_spoiledShare 33 = .ok (.aload_n 0, 1) := by decide +kernel
theorem dX6_spoiledShare_34 : decode cX6_spoiledShare 34 = .ok (.getfield 10, 3) := by decide +kernel
theorem dX6_spoiledShare_37 : decode cX6_spoiledShare 37 = .ok (.getfield 192, 3) := by decide +kernel
theorem dX6_spoiledShare_40 : decode cX6_spoiledShare 40 = .ok (.iload_n 3, 1) := by decide +kernel
theorem dX6_spoiledShare_41 : decode cX6_spoiledShare 41 = .ok (.aaload, 1) := by decide +kernel
theorem dX6_spoiledShare_42 : decode cX6_spoiledShare 42 = .ok (.getfield 182, 3) := by decide +kernel
theorem dX6_spoiledShare_45 : decode cX6_spoiledShare 45 = .ok (.iadd, 1) := by decide +kernel
theorem dX6_spoiledShare_46 : decode cX6_spoiledShare 46 = .ok (.istore_n 2, 1) := by decide +kernel
theorem dX6_spoiledShare_47 : decode cX6_spoiledShare 47 = .ok (.iinc 3 1, 3) := by decide +kernel
theorem dX6_spoiledShare_50 : decode cX6_spoiledShare 50 = .ok (.goto (-44), 3) := by decide +kernel
theorem dX6_spoiledShare_53 : decode cX6_spoiledShare 53 = .ok (.iload_n 1, 1) := by decide +kernel
theorem dX6_spoiledShare_54 : decode cX6_spoiledShare 54 = .ok (.ifCond .ne 5, 3) := by decide +kernel
theorem dX6_spoiledShare_57 : decode cX6_spoiledShare 57 = .ok (.fconst 0, 1) := by decide +kernel
theorem dX6_spoiledShare_58 : decode cX6_spoiledShare 58 = .ok (.freturn, 1) := by decide +kernel
theorem dX6_spoiledShare_59 : decode cX6_spoiledShare 59 = .ok (.iload_n 2, 1) := by decide +kernel
theorem dX6_spoiledShare_60 : decode cX6_spoiledShare 60 = .ok (.i2f, 1) := by decide +kernel
theorem dX6_spoiledShare_61 : decode cX6_spoiledShare 61 = .ok (.iload_n 1, 1) := by decide +kernel
theorem dX6_spoiledShare_62 : decode cX6_spoiledShare 62 = .ok (.i2f, 1) := by decide +kernel
theorem dX6_spoiledShare_63 : decode cX6_spoiledShare 63 = .ok (.fdiv, 1) := by decide +kernel
theorem dX6_spoiledShare_64 : decode cX6_spoiledShare 64 = .ok (.freturn, 1) := by decide +kernel
theorem hd_X6_spoiledShare : yX6_spoiledShare.cls = RX6 ∧ yX6_spoiledShare.cls ≠ "java/lang/invoke/MethodHandle" ∧ yX6_spoiledShare.cls ≠ "java/lang/invoke/VarHandle" ∧ (parseMethodDescriptor yX6_spoiledShare.desc).map (fun d => d.parameters.length) = some 0 := by decide +kernel
theorem dX7_meanPaid_0 : decode cX7_meanPaid 0 = .ok (.aload_n 0, 1) := by decide +kernel
theorem dX7_meanPaid_1 : decode cX7_meanPaid 1 = .ok (.iconst 0, 1) := by decide +kernel
theorem dX7_meanPaid_2 : decode cX7_meanPaid 2 = .ok (.putfield 60, 3) := by decide +kernel
theorem dX7_meanPaid_5 : decode cX7_meanPaid 5 = .ok (.aload_n 0, 1) := by decide +kernel
theorem dX7_meanPaid_6 : decode cX7_meanPaid 6 = .ok (.iconst 5, 1) := by decide +kernel
theorem dX7_meanPaid_7 : decode cX7_meanPaid 7 = .ok (.invokevirtual 326, 3) := by decide +kernel
theorem dX7_meanPaid_10 : decode cX7_meanPaid 10 = .ok (.ifCond .ne 7, 3) := by decide +kernel
theorem dX7_meanPaid_13 : decode cX7_meanPaid 13 = .ok (.dconst 0, 1) := by decide +kernel
theorem dX7_meanPaid_14 : decode cX7_meanPaid 14 = .ok (.goto 17, 3) := by decide +kernel
theorem dX7_meanPaid_17 : decode cX7_meanPaid 17 = .ok (.aload_n 0, 1) := by decide +kernel
theorem dX7_meanPaid_18 : decode cX7_meanPaid 18 = .ok (.bipush 7, 2) := by decide +kernel
theorem dX7_meanPaid_20 : decode cX7_meanPaid 20 = .ok (.invokevirtual 326, 3) := by decide +kernel
theorem dX7_meanPaid_23 : decode cX7_meanPaid 23 = .ok (.i2d, 1) := by decide +kernel
theorem dX7_meanPaid_24 : decode cX7_meanPaid 24 = .ok (.aload_n 0, 1) := by decide +kernel
theorem dX7_meanPaid_25 : decode cX7_meanPaid 25 = .ok (.iconst 5, 1) := by decide +kernel
theorem dX7_meanPaid_26 : decode cX7_meanPaid 26 = .ok (.invokevirtual 326, 3) := by decide +kernel
theorem dX7_meanPaid_29 : decode cX7_meanPaid 29 = .ok (.i2d, 1) := by decide +kernel
theorem dX7_meanPaid_30 : decode cX7_meanPaid 30 = .ok (.ddiv, 1) := by decide +kernel
theorem dX7_meanPaid_31 : decode cX7_meanPaid 31 = .ok (.dreturn, 1) := by decide +kernel
theorem hd_X7_meanPaid : yX7_meanPaid.cls = RX7 ∧ yX7_meanPaid.cls ≠ "java/lang/invoke/MethodHandle" ∧ yX7_meanPaid.cls ≠ "java/lang/invoke/VarHandle" ∧ (parseMethodDescriptor yX7_meanPaid.desc).map (fun d => d.parameters.length) = some 0 := by decide +kernel
theorem dX7_spoiledShare_0 : decode cX7_spoiledShare 0 = .ok (.aload_n 0, 1) := by decide +kernel
theorem dX7_spoiledShare_1 : decode cX7_spoiledShare 1 = .ok (.iconst 0, 1) := by decide +kernel
theorem dX7_spoiledShare_2 : decode cX7_spoiledShare 2 = .ok (.putfield 60, 3) := by decide +kernel
theorem dX7_spoiledShare_5 : decode cX7_spoiledShare 5 = .ok (.aload_n 0, 1) := by decide +kernel
theorem dX7_spoiledShare_6 : decode cX7_spoiledShare 6 = .ok (.bipush 8, 2) := by decide +kernel
theorem dX7_spoiledShare_8 : decode cX7_spoiledShare 8 = .ok (.invokevirtual 326, 3) := by decide +kernel
theorem dX7_spoiledShare_11 : decode cX7_spoiledShare 11 = .ok (.ifCond .ne 7, 3) := by decide +kernel
theorem dX7_spoiledShare_14 : decode cX7_spoiledShare 14 = .ok (.fconst 0, 1) := by decide +kernel
theorem dX7_spoiledShare_15 : decode cX7_spoiledShare 15 = .ok (.goto 18, 3) := by decide +kernel
theorem dX7_spoiledShare_18 : decode cX7_spoiledShare 18 = .ok (.aload_n 0, 1) := by decide +kernel
theorem dX7_spoiledShare_19 : decode cX7_spoiledShare 19 = .ok (.bipush 6, 2) := by decide +kernel
theorem dX7_spoiledShare_21 : decode cX7_spoiledShare 21 = .ok (.invokevirtual 326, 3) := by decide +kernel
theorem dX7_spoiledShare_24 : decode cX7_spoiledShare 24 = .ok (.i2f, 1) := by decide +kernel
theorem dX7_spoiledShare_25 : decode cX7_spoiledShare 25 = .ok (.aload_n 0, 1) := by decide +kernel
theorem dX7_spoiledShare_26 : decode cX7_spoiledShare 26 = .ok (.bipush 8, 2) := by decide +kernel
theorem dX7_spoiledShare_28 : decode cX7_spoiledShare 28 = .ok (.invokevirtual 326, 3) := by decide +kernel
theorem dX7_spoiledShare_31 : decode cX7_spoiledShare 31 = .ok (.i2f, 1) := by decide +kernel
theorem dX7_spoiledShare_32 : decode cX7_spoiledShare 32 = .ok (.fdiv, 1) := by decide +kernel
theorem dX7_spoiledShare_33 : decode cX7_spoiledShare 33 = .ok (.freturn, 1) := by decide +kernel
theorem hd_X7_spoiledShare : yX7_spoiledShare.cls = RX7 ∧ yX7_spoiledShare.cls ≠ "java/lang/invoke/MethodHandle" ∧ yX7_spoiledShare.cls ≠ "java/lang/invoke/VarHandle" ∧ (parseMethodDescriptor yX7_spoiledShare.desc).map (fun d => d.parameters.length) = some 0 := by decide +kernel
set_option maxRecDepth 100000 in
set_option maxHeartbeats 4000000 in
theorem c_X6_meanPaid (l : Launch) (D : va_G) (g : xG) (tb : List xQ) (hT : x_T g tb) (h0 : x_fb tb) {M : xM} {S E : Int32} (hS : f_X2_soldInAll 0 M = some (S, M)) (hE : f_X2_earnedInAll 0 M = some (E, M)) :
    cD l D g tb yX6_meanPaid cX6_meanPaid 2 ({ frames := 1, cells := 0, slots := 0, locals := 22 } : Room) [.ref (g.1 4 1664)] M (dq E S) M := by
  refine x_startD (own := RX6) (by decide +kernel) rfl rfl (Nat.le_of_ble_eq_true rfl) hT ?_
  intro p e s m args below meth c Q C0 hend
  refine r_aload_n C0 (kk := 0) 0 rfl dX6_meanPaid_0 ?_
  refine r_get4 C0 h0.1 0 (by decide) (v := .ref (g.1 2 0)) rfl rfl w3_102 dX6_meanPaid_1 ?_
  refine r_callVi C0 (As := []) (rest := []) (c_X2_soldInAll l D g tb hT h0.2.1 hS) w4_7 w4_8 w4_9 w1_2 w4_10 (x_rec2 C0 h0.2.1.1) hd_X2_soldInAll rfl ⟨rfl, rfl⟩ ⟨Nat.le_of_ble_eq_true rfl, Nat.le_of_ble_eq_true rfl⟩ (by decide) (by decide) rfl (Nat.le_of_ble_eq_true rfl) dX6_meanPaid_4 ?_
  refine r_istore_n C0 (kk := 1) (lv2 := [(1, .int S), (0, .ref (g.1 4 1664))]) (by decide) rfl dX6_meanPaid_7 ?_
  refine r_iload_n C0 (kk := 1) 0 rfl dX6_meanPaid_8 ?_
  refine r_if_ne C0 (tgt := 14) (by decide) dX6_meanPaid_9 (fun q => ?_) (fun q => ?_)
  · refine r_aload_n C0 (kk := 0) 1 rfl dX6_meanPaid_14 ?_
    refine r_get4 C0 h0.1 0 (by decide) (v := .ref (g.1 2 0)) rfl rfl w3_102 dX6_meanPaid_15 ?_
    refine r_callVi C0 (As := []) (rest := []) (c_X2_earnedInAll l D g tb hT h0.2.1 hE) w3_230 w3_231 w3_232 w1_2 w3_233 (x_rec2 C0 h0.2.1.1) hd_X2_earnedInAll rfl ⟨rfl, rfl⟩ ⟨Nat.le_of_ble_eq_true rfl, Nat.le_of_ble_eq_true rfl⟩ (by decide) (by decide) rfl (Nat.le_of_ble_eq_true rfl) dX6_meanPaid_18 ?_
    refine r_i2d C0 dX6_meanPaid_21 ?_
    refine r_iload_n C0 (kk := 1) 0 rfl dX6_meanPaid_22 ?_
    refine r_i2d C0 dX6_meanPaid_23 ?_
    refine r_ddiv C0 (q_d q) dX6_meanPaid_24 ?_
    exact hend ⟨(if_neg q).symm, rfl⟩ dX6_meanPaid_25
  · refine r_dconst0 C0 dX6_meanPaid_12 ?_
    exact hend ⟨(if_pos q).symm, rfl⟩ dX6_meanPaid_13
set_option maxRecDepth 100000 in
set_option maxHeartbeats 4000000 in
theorem c_X7_meanPaid (l : Launch) (D : va_G) (g : xG) (tb : List xQ) (hT : x_T g tb) (h0 : x_md tb) {M : xM} {S E : Int32} (hS : f_X7_sumOf 5 (upd M 2504 0) = some (S, upd M 2504 0)) (hE : f_X7_sumOf 7 (upd M 2504 0) = some (E, upd M 2504 0)) :
    cD l D g tb yX7_meanPaid cX7_meanPaid 1 ({ frames := 2, cells := 0, slots := 0, locals := 45 } : Room) [.ref (g.1 5 2500)] M (dq E S) (upd M 2504 0) := by
  refine x_startD (own := RX7) (by decide +kernel) rfl rfl (Nat.le_of_ble_eq_true rfl) hT ?_
  intro p e s m args below meth c Q C0 hend
  refine r_aload_n C0 (kk := 0) 0 rfl dX7_meanPaid_0 ?_
  refine r_iconst C0 (v := 0) dX7_meanPaid_1 rfl ?_
  refine r_put5 C0 h0.1 4 rfl rfl w6_220 rfl rfl rfl dX7_meanPaid_2 ?_
  refine r_aload_n C0 (kk := 0) 0 rfl dX7_meanPaid_5 ?_
  refine r_iconst C0 (v := 5) dX7_meanPaid_6 rfl ?_
  refine r_callVi C0 (As := [.int 5]) (rest := []) (c_X7_sumOf l D g tb hT h0 hS) w8_1 w8_3 wp6_3 w1_14 w8_4 (x_rec5 C0 h0.1) hd_X7_sumOf rfl ⟨rfl, rfl⟩ ⟨Nat.le_of_ble_eq_true rfl, Nat.le_of_ble_eq_true rfl⟩ (by decide) (by decide) rfl (Nat.le_of_ble_eq_true rfl) dX7_meanPaid_7 ?_
  refine r_if_ne C0 (tgt := 17) (by decide) dX7_meanPaid_10 (fun q => ?_) (fun q => ?_)
  · refine r_aload_n C0 (kk := 0) 0 rfl dX7_meanPaid_17 ?_
    refine r_bipush C0 (v := 7) dX7_meanPaid_18 rfl ?_
    refine r_callVi C0 (As := [.int 7]) (rest := []) (c_X7_sumOf l D g tb hT h0 hE) w8_1 w8_3 wp6_3 w1_14 w8_4 (x_rec5 C0 h0.1) hd_X7_sumOf rfl ⟨rfl, rfl⟩ ⟨Nat.le_of_ble_eq_true rfl, Nat.le_of_ble_eq_true rfl⟩ (by decide) (by decide) rfl (Nat.le_of_ble_eq_true rfl) dX7_meanPaid_20 ?_
    refine r_i2d C0 dX7_meanPaid_23 ?_
    refine r_aload_n C0 (kk := 0) 0 rfl dX7_meanPaid_24 ?_
    refine r_iconst C0 (v := 5) dX7_meanPaid_25 rfl ?_
    refine r_callVi C0 (As := [.int 5]) (rest := [.double (FP.i2d E)]) (c_X7_sumOf l D g tb hT h0 hS) w8_1 w8_3 wp6_3 w1_14 w8_4 (x_rec5 C0 h0.1) hd_X7_sumOf rfl ⟨rfl, rfl⟩ ⟨Nat.le_of_ble_eq_true rfl, Nat.le_of_ble_eq_true rfl⟩ (by decide) (by decide) rfl (Nat.le_of_ble_eq_true rfl) dX7_meanPaid_26 ?_
    refine r_i2d C0 dX7_meanPaid_29 ?_
    refine r_ddiv C0 (q_d q) dX7_meanPaid_30 ?_
    exact hend ⟨(if_neg q).symm, rfl⟩ dX7_meanPaid_31
  · refine r_dconst0 C0 dX7_meanPaid_13 ?_
    refine r_goto C0 (tgt := 31) (by decide) dX7_meanPaid_14 ?_
    exact hend ⟨(if_pos q).symm, rfl⟩ dX7_meanPaid_31
set_option maxRecDepth 100000 in
set_option maxHeartbeats 4000000 in
theorem c_X7_spoiledShare (l : Launch) (D : va_G) (g : xG) (tb : List xQ) (hT : x_T g tb) (h0 : x_md tb) {M : xM} {S E : Int32} (hS : f_X7_sumOf 8 (upd M 2504 0) = some (S, upd M 2504 0)) (hE : f_X7_sumOf 6 (upd M 2504 0) = some (E, upd M 2504 0)) :
    cF l D g tb yX7_spoiledShare cX7_spoiledShare 1 ({ frames := 2, cells := 0, slots := 0, locals := 45 } : Room) [.ref (g.1 5 2500)] M (fq E S) (upd M 2504 0) := by
  refine x_startF (own := RX7) (by decide +kernel) rfl rfl (Nat.le_of_ble_eq_true rfl) hT ?_
  intro p e s m args below meth c Q C0 hend
  refine r_aload_n C0 (kk := 0) 0 rfl dX7_spoiledShare_0 ?_
  refine r_iconst C0 (v := 0) dX7_spoiledShare_1 rfl ?_
  refine r_put5 C0 h0.1 4 rfl rfl w6_220 rfl rfl rfl dX7_spoiledShare_2 ?_
  refine r_aload_n C0 (kk := 0) 0 rfl dX7_spoiledShare_5 ?_
  refine r_bipush C0 (v := 8) dX7_spoiledShare_6 rfl ?_
  refine r_callVi C0 (As := [.int 8]) (rest := []) (c_X7_sumOf l D g tb hT h0 hS) w8_1 w8_3 wp6_3 w1_14 w8_4 (x_rec5 C0 h0.1) hd_X7_sumOf rfl ⟨rfl, rfl⟩ ⟨Nat.le_of_ble_eq_true rfl, Nat.le_of_ble_eq_true rfl⟩ (by decide) (by decide) rfl (Nat.le_of_ble_eq_true rfl) dX7_spoiledShare_8 ?_
  refine r_if_ne C0 (tgt := 18) (by decide) dX7_spoiledShare_11 (fun q => ?_) (fun q => ?_)
  · refine r_aload_n C0 (kk := 0) 0 rfl dX7_spoiledShare_18 ?_
    refine r_bipush C0 (v := 6) dX7_spoiledShare_19 rfl ?_
    refine r_callVi C0 (As := [.int 6]) (rest := []) (c_X7_sumOf l D g tb hT h0 hE) w8_1 w8_3 wp6_3 w1_14 w8_4 (x_rec5 C0 h0.1) hd_X7_sumOf rfl ⟨rfl, rfl⟩ ⟨Nat.le_of_ble_eq_true rfl, Nat.le_of_ble_eq_true rfl⟩ (by decide) (by decide) rfl (Nat.le_of_ble_eq_true rfl) dX7_spoiledShare_21 ?_
    refine r_i2f C0 dX7_spoiledShare_24 ?_
    refine r_aload_n C0 (kk := 0) 0 rfl dX7_spoiledShare_25 ?_
    refine r_bipush C0 (v := 8) dX7_spoiledShare_26 rfl ?_
    refine r_callVi C0 (As := [.int 8]) (rest := [.float (FP.i2f E)]) (c_X7_sumOf l D g tb hT h0 hS) w8_1 w8_3 wp6_3 w1_14 w8_4 (x_rec5 C0 h0.1) hd_X7_sumOf rfl ⟨rfl, rfl⟩ ⟨Nat.le_of_ble_eq_true rfl, Nat.le_of_ble_eq_true rfl⟩ (by decide) (by decide) rfl (Nat.le_of_ble_eq_true rfl) dX7_spoiledShare_28 ?_
    refine r_i2f C0 dX7_spoiledShare_31 ?_
    refine r_fdiv C0 (q_f q) dX7_spoiledShare_32 ?_
    exact hend ⟨(if_neg q).symm, rfl⟩ dX7_spoiledShare_33
  · refine r_fconst0 C0 dX7_spoiledShare_14 ?_
    refine r_goto C0 (tgt := 33) (by decide) dX7_spoiledShare_15 ?_
    exact hend ⟨(if_pos q).symm, rfl⟩ dX7_spoiledShare_33
set_option maxRecDepth 100000 in
set_option maxHeartbeats 4000000 in
theorem c_X6_spoiledShare (l : Launch) (D : va_G) (g : xG) (tb : List xQ) (hT : x_T g tb) (h0 : x_fb tb) {M : xM} {ns : Nat} (hn : ns ≤ 6) (hM : M 9 = nI ns) :
    cF l D g tb yX6_spoiledShare cX6_spoiledShare 4 ({ frames := 0, cells := 0, slots := 0, locals := 0 } : Room) [.ref (g.1 4 1664)] M (fq (SI (fun i => M (23 + 9 * i + 6)) ns) (SI (fun i => M (23 + 9 * i + 8)) ns)) M := by
  refine x_startF (own := RX6) (by decide +kernel) rfl rfl (Nat.le_of_ble_eq_true rfl) hT ?_
  intro p e s m args below meth c Q C0 hend
  have L : ∀ k i : Nat, i + k = ns → WW p l e ({ frames := 0, cells := 0, slots := 0, locals := 0 } : Room) s m args below meth c 0 0 Q 4 D g tb 6 [(0, .ref (g.1 4 1664)), (1, .int (SI (fun i => M (23 + 9 * i + 8)) i)), (2, .int (SI (fun i => M (23 + 9 * i + 6)) i)), (3, .int (nI i))] [] M := by
    intro k
    induction k with
    | zero =>
      intro i hi
      have hi : i = ns := by omega
      subst hi
      refine r_iload_n C0 (kk := 3) 3 rfl dX6_spoiledShare_6 ?_
      refine r_aload_n C0 (kk := 0) 0 rfl dX6_spoiledShare_7 ?_
      refine r_get4 C0 h0.1 0 (by decide) (v := .ref (g.1 2 0)) rfl rfl w3_102 dX6_spoiledShare_8 ?_
      refine r_get2 C0 h0.2.1.1 1 (by decide) (v := .int (M 9)) rfl rfl w1_139 dX6_spoiledShare_11 ?_
      refine r_icmp_ge C0 (tgt := 53) (by decide) dX6_spoiledShare_14 (fun q => ?_) (fun q => absurd (by rw [hM]; exact Int32.le_refl _) q)
      refine r_iload_n C0 (kk := 1) 1 rfl dX6_spoiledShare_53 ?_
      refine r_if_ne C0 (tgt := 59) (by decide) dX6_spoiledShare_54 (fun q => ?_) (fun q => ?_)
      · refine r_iload_n C0 (kk := 2) 2 rfl dX6_spoiledShare_59 ?_
        refine r_i2f C0 dX6_spoiledShare_60 ?_
        refine r_iload_n C0 (kk := 1) 1 rfl dX6_spoiledShare_61 ?_
        refine r_i2f C0 dX6_spoiledShare_62 ?_
        refine r_fdiv C0 (q_f q) dX6_spoiledShare_63 ?_
        exact hend ⟨(if_neg q).symm, rfl⟩ dX6_spoiledShare_64
      · refine r_fconst0 C0 dX6_spoiledShare_57 ?_
        exact hend ⟨(if_pos q).symm, rfl⟩ dX6_spoiledShare_58
    | succ k ih =>
      intro i hi
      refine r_iload_n C0 (kk := 3) 3 rfl dX6_spoiledShare_6 ?_
      refine r_aload_n C0 (kk := 0) 0 rfl dX6_spoiledShare_7 ?_
      refine r_get4 C0 h0.1 0 (by decide) (v := .ref (g.1 2 0)) rfl rfl w3_102 dX6_spoiledShare_8 ?_
      refine r_get2 C0 h0.2.1.1 1 (by decide) (v := .int (M 9)) rfl rfl w1_139 dX6_spoiledShare_11 ?_
      have hlt : ¬ M 9 ≤ nI i := by
        rw [hM, nI_leI (by omega) (by omega)]
        omega
      refine r_icmp_ge C0 (tgt := 53) (by decide) dX6_spoiledShare_14 (fun q => absurd q hlt) (fun q => ?_)
      have hin : vp_in (nI i) 6 := vp_in_nI (by omega) (by omega)
      have hti : (nI i).toNatClampNeg = i := nI_clamp (by omega)
      refine r_iload_n C0 (kk := 1) 1 rfl dX6_spoiledShare_17 ?_
      refine r_aload_n C0 (kk := 0) 0 rfl dX6_spoiledShare_18 ?_
      refine r_get4 C0 h0.1 0 (by decide) (v := .ref (g.1 2 0)) rfl rfl w3_102 dX6_spoiledShare_19 ?_
      refine r_get2 C0 h0.2.1.1 0 (by decide) (v := .ref (g.1 10 23)) rfl rfl w1_137 dX6_spoiledShare_22 ?_
      refine r_iload_n C0 (kk := 3) 3 rfl dX6_spoiledShare_25 ?_
      refine r_aald10 C0 h0.2.1.2.1 hin dX6_spoiledShare_26 ?_
      rw [hti]
      have hm : ((0, 23 + 9 * i, 0) : xQ) ∈ tb := by have := h0.2.1.2.2.2.2.1 i (by omega); rwa [Nat.zero_add] at this
      refine r_get0 C0 hm 8 (by decide) (v := .int (M (23 + 9 * i + 8))) rfl rfl w1_73 dX6_spoiledShare_27 ?_
      refine r_iadd C0 dX6_spoiledShare_30 ?_
      refine r_istore_n C0 (kk := 1) (lv2 := [(1, .int (SI (fun i => M (23 + 9 * i + 8)) (i + 1))), (0, .ref (g.1 4 1664)), (2, .int (SI (fun i => M (23 + 9 * i + 6)) i)), (3, .int (nI i))]) (by decide) rfl dX6_spoiledShare_31 ?_
      refine r_iload_n C0 (kk := 2) 2 rfl dX6_spoiledShare_32 ?_
      refine r_aload_n C0 (kk := 0) 1 rfl dX6_spoiledShare_33 ?_
      refine r_get4 C0 h0.1 0 (by decide) (v := .ref (g.1 2 0)) rfl rfl w3_102 dX6_spoiledShare_34 ?_
      refine r_get2 C0 h0.2.1.1 0 (by decide) (v := .ref (g.1 10 23)) rfl rfl w1_137 dX6_spoiledShare_37 ?_
      refine r_iload_n C0 (kk := 3) 3 rfl dX6_spoiledShare_40 ?_
      refine r_aald10 C0 h0.2.1.2.1 hin dX6_spoiledShare_41 ?_
      rw [hti]
      refine r_get0 C0 hm 6 (by decide) (v := .int (M (23 + 9 * i + 6))) rfl rfl w1_67 dX6_spoiledShare_42 ?_
      refine r_iadd C0 dX6_spoiledShare_45 ?_
      refine r_istore_n C0 (kk := 2) (lv2 := [(2, .int (SI (fun i => M (23 + 9 * i + 6)) (i + 1))), (1, .int (SI (fun i => M (23 + 9 * i + 8)) (i + 1))), (0, .ref (g.1 4 1664)), (3, .int (nI i))]) (by decide) rfl dX6_spoiledShare_46 ?_
      refine r_iincc C0 3 rfl (k0 := 1) (by decide) (by decide) (lv2 := [(3, .int (nI i + 1)), (2, .int (SI (fun i => M (23 + 9 * i + 6)) (i + 1))), (1, .int (SI (fun i => M (23 + 9 * i + 8)) (i + 1))), (0, .ref (g.1 4 1664))]) rfl dX6_spoiledShare_47 ?_
      refine r_goto C0 (tgt := 6) (by decide) dX6_spoiledShare_50 ?_
      refine WW.sub [3, 2, 1, 0] rfl ?_
      rw [nI_1]
      exact ih (i + 1) (by omega)
  refine r_iconst C0 (v := 0) dX6_spoiledShare_0 rfl ?_
  refine r_istore_n C0 (kk := 1) (lv2 := [(1, .int 0), (0, .ref (g.1 4 1664))]) (by decide) rfl dX6_spoiledShare_1 ?_
  refine r_iconst C0 (v := 0) dX6_spoiledShare_2 rfl ?_
  refine r_istore_n C0 (kk := 2) (lv2 := [(2, .int 0), (1, .int 0), (0, .ref (g.1 4 1664))]) (by decide) rfl dX6_spoiledShare_3 ?_
  refine r_iconst C0 (v := 0) dX6_spoiledShare_4 rfl ?_
  refine r_istore_n C0 (kk := 3) (lv2 := [(3, .int 0), (2, .int 0), (1, .int 0), (0, .ref (g.1 4 1664))]) (by decide) rfl dX6_spoiledShare_5 ?_
  refine WW.sub [3, 2, 1, 0] rfl ?_
  have := L ns 0 (Nat.zero_add ns)
  rw [nI_0] at this
  exact this
