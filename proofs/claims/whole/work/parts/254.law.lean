/-! the law's own static methods: methods with a table of handlers -/
def wsH (y : MethodName) (cc : ByteArray) (n : Nat) (hh : List (Nat × Nat × Nat × Nat)) : List Cond := .codeWith y cc n (some .int) hh :: xA
def cL (l : Launch) (D : va_G) (g : xG) (tb : List xQ) (y : MethodName) (cc : ByteArray) (nL : Nat) (hh : List (Nat × Nat × Nat × Nat)) (rm : Room) (mc : Nat) (as : List Value) (M : xM) (r : Int32) (M' : xM) : Prop :=
  ∀ sz, Met l y (wsH y cc nL hh) rm (va_Pc as (fun U => U.heap.size = sz ∧ x_B D g tb M U)) (x_Qi D g tb r M' sz) mc (6 * mc) (x_A g tb sz)
theorem Met_ofWH {l : Launch} {y : MethodName} {ws ws' : List Cond} {rm : Room} {Pc : Array Value → State → Prop} {Qc : Array Value → State → Outcome → State → Prop} {mc ms : Nat} {free : Addr → Prop} {cc : ByteArray} {maxL : Nat} {ret : Option FieldType} {hh : List (Nat × Nat × Nat × Nat)}
    (hy : plainName y.cls = true) (hw : ws = Cond.codeWith y cc maxL ret hh :: ws')
    (body : ∀ p e s m args below meth c s₁, BodyLoose p l y (headSpec ws rm) cc maxL ret e s m args below meth c s₁ → c.maxLocals = maxL → Pc args s →
      W p l e (headSpec ws rm).room s m args below meth c s.heap [] 0 0 (MQ below Qc args s mc ms free) (entryFrame m args maxL)) : Met l y ws rm Pc Qc mc ms free := by
  refine MetFree.of_bodyS (code := cc) (maxLocals := maxL) (ret := ret) hy ?_ ?_
  · intro args s m h hn
    obtain ⟨m9, meth, c, hn9, h1, h2, h3, h4, -, h5, h6, -⟩ := Cond.codeWith_spec (atoms_spec (ws := ws) h _ (by rw [hw]; exact List.mem_cons_self))
    cases hn.symm.trans hn9
    exact ⟨meth, c, h1, h2, h3, h4, h5, h6⟩
  · intro p e s m args below meth c s₁ B hml hP _
    have hh0 : s₁.heap = s.heap := by rw [B.state]; rfl
    obtain ⟨t, a1, o, b1, b2, b3⟩ := body p e s m args below meth c s₁ B hml hP s₁ hh0 (Stand.of_body B)
    exact ⟨t, o, a1, b1, b2, ⟨b3.1, b3.2⟩⟩
theorem x_startH {l : Launch} {D : va_G} {g : xG} {tb : List xQ} {M M' : xM} {y : MethodName} {cc : ByteArray} {nL mc : Nat} {hh : List (Nat × Nat × Nat × Nat)} {rm : Room} {as : List Value} {own : String} {lv : List (Nat × Value)} {r : Int32}
    (hy : plainName y.cls = true) (hown' : y.cls = own) (hlv : lv_args 0 as = lv) (hln : (lg_sl as).length ≤ nL) (hT : x_T g tb)
    (body : ∀ (p : Program) (e : Env) (s : State) (m : MethodId) (args : Array Value) (below : List Frame) (meth : Method) (c : Code) (Q : State → Prop), CC p s m args c cc nL own D g tb → c.exceptionTable.toList = tableOf hh →
      (∀ {pc : Nat} {lv : List (Nat × Value)} {v : Int32} {M0 : xM}, v = r ∧ M0 = M' → decode cc pc = .ok (.ireturn, 1) → WW p l e rm s m args below meth c mc (6 * mc) Q nL D g tb pc lv [.int v] M0) → WW p l e rm s m args below meth c 0 0 Q nL D g tb 0 lv [] M) : cL l D g tb y cc nL hh rm mc as M r M' := by
  intro sz
  refine Met_ofWH (cc := cc) (maxL := nL) (ret := some .int) (hh := hh) hy rfl ?_
  intro p e s m args below meth c s₁ B hml hv
  obtain ⟨rfl, hsz, hP, hK, hKS⟩ := hv
  subst hsz
  have hts0 := atoms_spec (ws := wsH y cc nL hh) B.pre
  have hts : ∀ w ∈ xA, w.before as.toArray s = true := fun w h => hts0 w (List.mem_cons_of_mem _ h)
  have hown : s.vm.findClass own = some m.cls := by rw [← hown']; exact findClass_of_methodNamed B.named
  have hl := lv_entry as (n := nL) hln
  rw [lg_entry_eq]
  rw [hlv] at hl
  have C0 : CC p s m as.toArray c cc nL own D g tb := ⟨B.exec, B.bytes, hml, hown, hts, hK, hT, hKS⟩
  refine body p e s m _ below meth c _ C0 (vx_table (x := y) B (hts0 _ List.mem_cons_self)) (fun hf hd => ?_) s.heap [] _ hP va_S.rf hl
  exact r_iret C0 B.returns B.notSynchronized (by rw [hf.1, hf.2]) hd
section XH
variable {p : Program} {l : Launch} {e : Env} {R : Room} {s : State} {m : MethodId} {args : Array Value} {below : List Frame} {meth : Method} {c : Code} {cells slots : Nat} {Q : State → Prop}
variable {cc : ByteArray} {nL : Nat} {own : String} {D : va_G} {g : xG} {tb : List xQ} {pc : Nat} {lv : List (Nat × Value)} {st : List Value} {M : xM}
theorem r_last (C0 : CC p s m args c cc nL own D g tb) {b n : Nat} {i x : Int32} (hq : (9, b, n) ∈ tb) (hin : vp_in i n) (hd : decode cc pc = .ok (.lastore, 1)) (k : WW p l e R s m args below meth c cells slots Q nL D g tb (pc + 1) lv st (upd M (b + i.toNatClampNeg) x)) : WW p l e R s m args below meth c cells slots Q nL D g tb pc lv (.long x.toInt64 :: .int i :: .ref (g.1 9 b) :: st) M := by
  intro H locs ls h1 h2 h3
  obtain ⟨q, hi⟩ := List.getElem?_of_mem hq
  obtain ⟨hx, hb, hml, hown, hts, hK, hT, -⟩ := C0
  have hlt : i.toNatClampNeg < n := Nat.not_le.mp fun q => hin (Or.inr q)
  refine va_last hx hb hK h1 (x_apart hT M s.heap.size) h2 q 3 (x_ws_at hi) rfl hin hd (fun H1 locs1 hP hD hS => k H1 locs1 ls (x_conv hi hP ?_ (x_other hT hi ⟨Nat.le_add_right _ _, Nat.add_lt_add_left hlt b⟩)) hS h3)
  intro hv
  refine (show va_at D xCl (x_ad g (9, b, n), .inl (g.2.1 3, n, .inr (.inl (fun j => (upd M (b + i.toNatClampNeg) x (b + j)).toInt64)))) H1 from ?_)
  have e : (fun j => (upd M (b + i.toNatClampNeg) x (b + j)).toInt64) = vp_updL (fun j => (M (b + j)).toInt64) i.toNatClampNeg x.toInt64 := by
    funext j
    by_cases h : j = i.toNatClampNeg
    · subst h; simp [upd, vp_updL]
    · simp [upd, vp_updL, h]
  rw [e]
  exact hv
/-- an exception comes, its class's handler takes it -/
theorem r_catch (C0 : CC p s m args c cc nL own D g tb) {k : Nat} (hk0 : 0 < k) (hk5 : k < 5) {E : String} (hE : E = x_ex k) (pre : List ExceptionTableEntry) (x : ExceptionTableEntry) (suf : List ExceptionTableEntry) (hsplit : c.exceptionTable.toList = pre ++ x :: suf)
    (hpass : ∀ z ∈ pre, z.catchType ≠ 0 ∧ ∃ j, 0 < j ∧ j < 5 ∧ k ≠ j ∧ Cond.classLink own z.catchType (x_ex j) ∈ xA) (hx : covers x pc = true) (h0 : x.catchType ≠ 0) (hl : Cond.classLink own x.catchType (x_ex k) ∈ xA)
    {H : Heap} {locs : List Loc} {ls : Array Slot} {rest : List Value} {ce : Cell} {q : Addr} (hH : x_H D g tb M H) (hS : va_S (x_A g tb s.heap.size) s.heap H locs) (hlv : lv_has ls nL lv) (hc : H[q]? = some ce) (hv : ce.vm = .none) (hcl : s.vm.findClass E = some ce.cls)
    (kk : WW p l e R s m args below meth c cells slots Q nL D g tb x.handlerPc lv [.ref q] M) : vx_W p l e R s m args below meth c H locs cells slots Q (F0 m pc ls rest) q := by
  subst hE
  refine vx_catch (own := own) (name := x_ex k) C0.2.2.2.1 pre x suf hsplit (fun z hz => Or.inr ?_) hx h0 (C0.2.2.2.2.1 _ hl) ?_ hc hv hcl (kk H locs ls hH hS hlv)
  · obtain ⟨z0, j, j0, j5, jk, hw⟩ := hpass z hz
    exact ⟨z0, x_ex j, C0.2.2.2.2.1 _ hw, C0.2.2.2.2.2.2.2.2.1 k j hk5 j5 hk0 j0 jk⟩
  · have hm : Cond.castable (x_ex k) (x_ex k) ∈ x_dw := by
      rcases (show k = 1 ∨ k = 2 ∨ k = 3 ∨ k = 4 by omega) with rfl | rfl | rfl | rfl
      · exact List.mem_of_getElem? (i := 7) rfl
      · exact List.mem_of_getElem? (i := 8) rfl
      · exact List.mem_of_getElem? (i := 9) rfl
      · exact List.mem_of_getElem? (i := 10) rfl
    exact (C0.2.2.2.2.2.2.2.1 _ hm).use rfl
end XH
