/-! methods that throw: 0 is a return; 1 IllegalArgument, 2 IndexOutOfBounds, 3 IllegalState, 4 NoSuchElement -/
def tX (D : va_G) (g : xG) (tb : List xQ) (k : Nat) (M : xM) (sz : Nat) : String → State → State → Prop := vx_X (fun (_ : Unit) => ¬ k = 0) (fun E _ t => E = x_ex k ∧ x_H D g tb M t.heap) (x_A g tb sz)
def tI (l : Launch) (D : va_G) (g : xG) (tb : List xQ) (y : MethodName) (cc : ByteArray) (nL : Nat) (ret : FieldType) (rm : Room) (mc : Nat) (as : List Value) (M : xM) (k : Nat) (r : Int32) (M' : xM) : Prop :=
  ∀ sz, vx_Met l y (ws_ y cc nL (some ret)) rm (va_Pc as (fun U => U.heap.size = sz ∧ x_B D g tb M U)) (va_Qi (fun r' (_ : Unit) => k = 0 ∧ r' = r) (fun _ t => x_B D g tb M' t) (x_A g tb sz)) (tX D g tb k M' sz) mc (6 * mc) (x_A g tb sz)
def tV (l : Launch) (D : va_G) (g : xG) (tb : List xQ) (y : MethodName) (cc : ByteArray) (nL : Nat) (rm : Room) (mc : Nat) (as : List Value) (M : xM) (k : Nat) (M' : xM) : Prop :=
  ∀ sz, vx_Met l y (ws_ y cc nL none) rm (va_Pc as (fun U => U.heap.size = sz ∧ x_B D g tb M U)) (va_Qv (fun (_ : Unit) => k = 0) (fun _ t => x_B D g tb M' t) (x_A g tb sz)) (tX D g tb k M' sz) mc (6 * mc) (x_A g tb sz)
def tR (l : Launch) (D : va_G) (g : xG) (tb : List xQ) (y : MethodName) (cc : ByteArray) (nL : Nat) (ret : FieldType) (kd : Nat) (rm : Room) (mc : Nat) (as : List Value) (M : xM) (k r : Nat) (M' : xM) : Prop :=
  ∀ sz, vx_Met l y (ws_ y cc nL (some ret)) rm (va_Pc as (fun U => U.heap.size = sz ∧ x_B D g tb M U)) (va_Qr (fun (_ : Unit) => k = 0 ∧ ((kd, r, 0) : xQ) ∈ tb) (fun _ a t => a = g.1 kd r ∧ x_B D g tb M' t) (x_A g tb sz)) (tX D g tb k M' sz) mc (6 * mc) (x_A g tb sz)
theorem x_tstart {l : Launch} {D : va_G} {g : xG} {tb : List xQ} {M : xM} {y : MethodName} {cc : ByteArray} {nL : Nat} {ret : Option FieldType} {rm : Room} {as : List Value} {sz : Nat} {Qc : Array Value → State → Outcome → State → Prop} {XC : String → State → State → Prop} {own : String} {lv : List (Nat × Value)} {mc ms : Nat} {free : Addr → Prop}
    (hy : plainName y.cls = true) (hown' : y.cls = own) (hlv : lv_args 0 as = lv) (hln : (lg_sl as).length ≤ nL) (hT : x_T g tb)
    (body : ∀ (p : Program) (e : Env) (s : State) (m : MethodId) (below : List Frame) (meth : Method) (c : Code), s.heap.size = sz → CC p s m as.toArray c cc nL own D g tb → meth.sig.returnType = ret → meth.locks = false → (∀ x ∈ c.exceptionTable.toList, False) → WW p l e rm s m as.toArray below meth c 0 0 (vx_MQ below Qc XC as.toArray s mc ms free) nL D g tb 0 lv [] M) :
    vx_Met l y (ws_ y cc nL ret) rm (va_Pc as (fun U => U.heap.size = sz ∧ x_B D g tb M U)) Qc XC mc ms free := by
  refine vx_ofW (cc := cc) (maxL := nL) (ret := ret) hy rfl ?_
  intro p e s m args below meth c s₁ B hml htab hv
  obtain ⟨rfl, hsz, hP, hK, hKS⟩ := hv
  have hts0 := atoms_spec (ws := ws_ y cc nL ret) B.pre
  have hts : ∀ w ∈ xA, w.before as.toArray s = true := fun w h => hts0 w (List.mem_cons_of_mem _ h)
  have hown : s.vm.findClass own = some m.cls := by rw [← hown']; exact findClass_of_methodNamed B.named
  have hl := lv_entry as (n := nL) hln
  rw [lg_entry_eq]
  rw [hlv] at hl
  exact body p e s m below meth c hsz ⟨B.exec, B.bytes, hml, hown, hts, hK, hT, hKS⟩ B.returns B.notSynchronized htab s.heap [] _ hP va_S.rf hl
section XU
variable {p : Program} {l : Launch} {e : Env} {R : Room} {s : State} {m : MethodId} {args : Array Value} {below : List Frame} {meth : Method} {c : Code} {cells slots : Nat} {Q : State → Prop}
variable {cc : ByteArray} {nL : Nat} {own : String} {D : va_G} {g : xG} {tb : List xQ} {pc : Nat} {lv : List (Nat × Value)} {st : List Value} {M : xM}
theorem WW.widen {k n : Nat} (h1 : cells ≤ k) (h2 : slots ≤ n) (kk : WW p l e R s m args below meth c k n Q nL D g tb pc lv st M) : WW p l e R s m args below meth c cells slots Q nL D g tb pc lv st M := fun H locs ls a b d => W.widen h1 h2 (kk H locs ls a b d)
/-- it goes on to the caller -/
theorem r_out {Qc : Array Value → State → Outcome → State → Prop} {mc ms k : Nat} {M' : xM} {H : Heap} {locs : List Loc} {ls : Array Slot} {rest : List Value} {E : String} {ce : Cell} {q : Addr} (hlk : meth.locks = false) (htab : ∀ x ∈ c.exceptionTable.toList, False) (hk : ¬ k = 0) (hE : E = x_ex k) (hH : x_H D g tb M' H) (hS : va_S (x_A g tb s.heap.size) s.heap H locs) (hc : H[q]? = some ce) (hv : ce.vm = .none) (hcl : s.vm.findClass E = some ce.cls) (h1 : cells ≤ mc) (h2 : slots ≤ ms) :
    vx_W p l e R s m args below meth c H locs cells slots (vx_MQ below Qc (tX D g tb k M' s.heap.size) args s mc ms (x_A g tb s.heap.size)) (F0 m pc ls rest) q :=
  vx_out (fun x hx => (htab x hx).elim) hlk hc hv hcl (fun t ht _ => ⟨(), hk, ⟨hE, by rw [ht]; exact hH⟩, hS.F ht⟩) hS.2.2 h1 h2
theorem r_throw (C0 : CC p s m args c cc nL own D g tb) (hlst : l.stackTraces = false) (hlk : meth.locks = false) (htab : ∀ x ∈ c.exceptionTable.toList, False) {Qc : Array Value → State → Outcome → State → Prop} {mc ms k ik ic is si : Nat} {tx : String} (hown6 : own = RX6) (hk : x_tk k ik ic) (hk0 : ¬ k = 0) (hsi : x_sl[si]? = some (own, is, tx))
    (d0 : decode cc pc = .ok (.new ik, 3)) (d3 : decode cc (pc + 3) = .ok (.dup, 1)) (d4 : decode cc (pc + 4) = .ok (.ldc is, 2)) (d6 : decode cc (pc + 6) = .ok (.invokespecial ic, 3)) (d9 : decode cc (pc + 9) = .ok (.athrow, 1))
    (hf1 : 5 < R.frames) (hl1 : (st.map fun v => v.category).sum + 82 ≤ R.locals) (hc1 : cells + 1 ≤ R.cells) (hs1 : slots + 6 ≤ R.slots) (hc : cells + 1 ≤ mc) (hs : slots + 6 ≤ ms) :
    WW p l e R s m args below meth c cells slots (vx_MQ below Qc (tX D g tb k M s.heap.size) args s mc ms (x_A g tb s.heap.size)) nL D g tb pc lv st M := by
  intro H locs ls h1 h2 h3
  subst hown6
  obtain ⟨hx, hb, hml, hown, hts, hK, hT, k1, k2, k3, k4, kU, kN, -⟩ := C0
  obtain ⟨t1, t2, t3, t4, t5, t6⟩ := hk
  refine vx_throwS (own := RX6) (cls := x_ex k) (names := x_nms) (ik := ik) (is := is) (ic := ic) (A := x_A g tb s.heap.size) hx hb hlst hown t1 (by decide +kernel) (hts _ t2) (hts _ t3) (k3 si _ hsi) ?_ t6 kU kN h2 (h3.1.trans hml.symm) d0 d3 d4 d6 d9 (fun x hx => (htab x hx).elim) hf1 hl1 hc1 hs1 hlk ?_ h2.2.2 hc hs
  · exact vx_hat (fun w hw => hts w (t4 w hw)) t5 (fun w hw => (k1 w hw).use (by
      simp only [x_dw, List.mem_cons, List.not_mem_nil, or_false] at hw
      rcases hw with rfl | rfl | rfl | rfl | rfl | rfl | rfl | rfl | rfl | rfl | rfl
      all_goals rfl))
  · intro t ha hz hq
    refine ⟨(), hk0, ⟨rfl, va_P.kept h1 (fun k q hk => hq q.1 (h1 k q hk).lt)⟩, ?_⟩
    exact ⟨Nat.le_trans h2.1 hz, fun q a b => (hq q (Nat.lt_of_lt_of_le a h2.1)).trans (h2.2.1 q a b)⟩
theorem r_throww (C0 : CC p s m args c cc nL own D g tb) (hlst : l.stackTraces = false) (hlk : meth.locks = false) (htab : ∀ x ∈ c.exceptionTable.toList, False) {Qc : Array Value → State → Outcome → State → Prop} {mc ms k ik ic is si : Nat} {tx : String} (hown6 : own = RX6) (hk : x_tk k ik ic) (hk0 : ¬ k = 0) (hsi : x_sl[si]? = some (own, is, tx))
    (d0 : decode cc pc = .ok (.new ik, 3)) (d3 : decode cc (pc + 3) = .ok (.dup, 1)) (d4 : decode cc (pc + 4) = .ok (.ldc_w is, 3)) (d6 : decode cc (pc + 7) = .ok (.invokespecial ic, 3)) (d9 : decode cc (pc + 10) = .ok (.athrow, 1))
    (hf1 : 5 < R.frames) (hl1 : (st.map fun v => v.category).sum + 82 ≤ R.locals) (hc1 : cells + 1 ≤ R.cells) (hs1 : slots + 6 ≤ R.slots) (hc : cells + 1 ≤ mc) (hs : slots + 6 ≤ ms) :
    WW p l e R s m args below meth c cells slots (vx_MQ below Qc (tX D g tb k M s.heap.size) args s mc ms (x_A g tb s.heap.size)) nL D g tb pc lv st M := by
  intro H locs ls h1 h2 h3
  subst hown6
  obtain ⟨hx, hb, hml, hown, hts, hK, hT, k1, k2, k3, k4, kU, kN, -⟩ := C0
  obtain ⟨t1, t2, t3, t4, t5, t6⟩ := hk
  refine vx_throwSW (own := RX6) (cls := x_ex k) (names := x_nms) (ik := ik) (is := is) (ic := ic) (A := x_A g tb s.heap.size) hx hb hlst hown t1 (by decide +kernel) (hts _ t2) (hts _ t3) (k3 si _ hsi) ?_ t6 kU kN h2 (h3.1.trans hml.symm) d0 d3 d4 d6 d9 (fun x hx => (htab x hx).elim) hf1 hl1 hc1 hs1 hlk ?_ h2.2.2 hc hs
  · exact vx_hat (fun w hw => hts w (t4 w hw)) t5 (fun w hw => (k1 w hw).use (by
      simp only [x_dw, List.mem_cons, List.not_mem_nil, or_false] at hw
      rcases hw with rfl | rfl | rfl | rfl | rfl | rfl | rfl | rfl | rfl | rfl | rfl
      all_goals rfl))
  · intro t ha hz hq
    refine ⟨(), hk0, ⟨rfl, va_P.kept h1 (fun k q hk => hq q.1 (h1 k q hk).lt)⟩, ?_⟩
    exact ⟨Nat.le_trans h2.1 hz, fun q a b => (hq q (Nat.lt_of_lt_of_le a h2.1)).trans (h2.2.1 q a b)⟩
end XU
theorem x_tstartI {l : Launch} {D : va_G} {g : xG} {tb : List xQ} {M M' : xM} {y : MethodName} {cc : ByteArray} {nL mc : Nat} {rm : Room} {as : List Value} {own : String} {lv : List (Nat × Value)} {k : Nat} {r : Int32}
    (hy : plainName y.cls = true) (hown' : y.cls = own) (hlv : lv_args 0 as = lv) (hln : (lg_sl as).length ≤ nL) (hT : x_T g tb)
    (body : ∀ (p : Program) (e : Env) (s : State) (m : MethodId) (args : Array Value) (below : List Frame) (meth : Method) (c : Code) (Q : State → Prop), CC p s m args c cc nL own D g tb →
      (∀ {pc : Nat} {lv : List (Nat × Value)} {cells slots : Nat} {v : Int32} {M0 : xM}, cells ≤ mc → slots ≤ 6 * mc → (some (0, v, M0) : Option (Nat × Int32 × xM)) = some (k, r, M') → decode cc pc = .ok (.ireturn, 1) → WW p l e rm s m args below meth c cells slots Q nL D g tb pc lv [.int v] M0) →
      (∀ {pc : Nat} {H : Heap} {locs : List Loc} {ls : Array Slot} {rest : List Value} {E : String} {ce : Cell} {q : Addr} {k0 cells slots : Nat} {M0 : xM}, cells ≤ mc → slots ≤ 6 * mc → ¬ k0 = 0 → E = x_ex k0 → x_H D g tb M0 H → va_S (x_A g tb s.heap.size) s.heap H locs → H[q]? = some ce → ce.vm = .none → s.vm.findClass E = some ce.cls → (some (k0, (0 : Int32), M0) : Option (Nat × Int32 × xM)) = some (k, r, M') → vx_W p l e rm s m args below meth c H locs cells slots Q (F0 m pc ls rest) q) →
      (∀ {pc ik ic is si k0 cells slots : Nat} {lv : List (Nat × Value)} {st : List Value} {tx : String} {M0 : xM}, l.stackTraces = false → own = RX6 → x_tk k0 ik ic → ¬ k0 = 0 → x_sl[si]? = some (own, is, tx) → decode cc pc = .ok (.new ik, 3) → decode cc (pc + 3) = .ok (.dup, 1) → ((decode cc (pc + 4) = .ok (.ldc is, 2) ∧ decode cc (pc + 6) = .ok (.invokespecial ic, 3) ∧ decode cc (pc + 9) = .ok (.athrow, 1)) ∨ (decode cc (pc + 4) = .ok (.ldc_w is, 3) ∧ decode cc (pc + 7) = .ok (.invokespecial ic, 3) ∧ decode cc (pc + 10) = .ok (.athrow, 1))) →
        5 < rm.frames → (st.map fun v => v.category).sum + 82 ≤ rm.locals → cells + 1 ≤ rm.cells → slots + 6 ≤ rm.slots → cells + 1 ≤ mc → slots + 6 ≤ 6 * mc → (some (k0, (0 : Int32), M0) : Option (Nat × Int32 × xM)) = some (k, r, M') → WW p l e rm s m args below meth c cells slots Q nL D g tb pc lv st M0) →
      WW p l e rm s m args below meth c 0 0 Q nL D g tb 0 lv [] M) : tI l D g tb y cc nL .int rm mc as M k r M' := by
  intro sz
  refine x_tstart hy hown' hlv hln hT ?_
  rintro p e s m below meth c rfl C0 hr hlk htab
  refine body p e s m _ below meth c _ C0 ?_ ?_ ?_
  · intro pc lv cells slots v M0 a1 a2 hf hd
    cases hf
    exact fun H locs ls h1 h2 h3 => W.widen a1 a2 (vx_ret (W.iret C0.1 C0.2.1 hr (fun t ht hW => ⟨⟨_, (), rfl, ⟨rfl, rfl⟩, x_Bend C0 h1 h2 ht hW⟩, h2.F ht⟩) h2.2.2 hd hlk))
  · intro pc H locs ls rest E ce q k0 cells slots M0 a1 a2 a3 a4 a5 a6 a7 a8 a9 hf
    cases hf
    exact r_out hlk htab a3 a4 a5 a6 a7 a8 a9 a1 a2
  · intro pc ik ic is si k0 cells slots lv st tx M0 b1 b2 b3 b4 b5 d0 d3 dd c1 c2 c3 c4 c5 c6 hf
    cases hf
    rcases dd with ⟨d4, d6, d9⟩ | ⟨d4, d6, d9⟩
    · exact r_throw C0 b1 hlk htab b2 b3 b4 b5 d0 d3 d4 d6 d9 c1 c2 c3 c4 c5 c6
    · exact r_throww C0 b1 hlk htab b2 b3 b4 b5 d0 d3 d4 d6 d9 c1 c2 c3 c4 c5 c6
theorem x_tstartV {l : Launch} {D : va_G} {g : xG} {tb : List xQ} {M M' : xM} {y : MethodName} {cc : ByteArray} {nL mc : Nat} {rm : Room} {as : List Value} {own : String} {lv : List (Nat × Value)} {k : Nat} {r : Unit}
    (hy : plainName y.cls = true) (hown' : y.cls = own) (hlv : lv_args 0 as = lv) (hln : (lg_sl as).length ≤ nL) (hT : x_T g tb)
    (body : ∀ (p : Program) (e : Env) (s : State) (m : MethodId) (args : Array Value) (below : List Frame) (meth : Method) (c : Code) (Q : State → Prop), CC p s m args c cc nL own D g tb →
      (∀ {pc : Nat} {lv : List (Nat × Value)} {cells slots : Nat} {M0 : xM}, cells ≤ mc → slots ≤ 6 * mc → (some (0, (), M0) : Option (Nat × Unit × xM)) = some (k, r, M') → decode cc pc = .ok (.return_, 1) → WW p l e rm s m args below meth c cells slots Q nL D g tb pc lv [] M0) →
      (∀ {pc : Nat} {H : Heap} {locs : List Loc} {ls : Array Slot} {rest : List Value} {E : String} {ce : Cell} {q : Addr} {k0 cells slots : Nat} {M0 : xM}, cells ≤ mc → slots ≤ 6 * mc → ¬ k0 = 0 → E = x_ex k0 → x_H D g tb M0 H → va_S (x_A g tb s.heap.size) s.heap H locs → H[q]? = some ce → ce.vm = .none → s.vm.findClass E = some ce.cls → (some (k0, (), M0) : Option (Nat × Unit × xM)) = some (k, r, M') → vx_W p l e rm s m args below meth c H locs cells slots Q (F0 m pc ls rest) q) →
      (∀ {pc ik ic is si k0 cells slots : Nat} {lv : List (Nat × Value)} {st : List Value} {tx : String} {M0 : xM}, l.stackTraces = false → own = RX6 → x_tk k0 ik ic → ¬ k0 = 0 → x_sl[si]? = some (own, is, tx) → decode cc pc = .ok (.new ik, 3) → decode cc (pc + 3) = .ok (.dup, 1) → ((decode cc (pc + 4) = .ok (.ldc is, 2) ∧ decode cc (pc + 6) = .ok (.invokespecial ic, 3) ∧ decode cc (pc + 9) = .ok (.athrow, 1)) ∨ (decode cc (pc + 4) = .ok (.ldc_w is, 3) ∧ decode cc (pc + 7) = .ok (.invokespecial ic, 3) ∧ decode cc (pc + 10) = .ok (.athrow, 1))) →
        5 < rm.frames → (st.map fun v => v.category).sum + 82 ≤ rm.locals → cells + 1 ≤ rm.cells → slots + 6 ≤ rm.slots → cells + 1 ≤ mc → slots + 6 ≤ 6 * mc → (some (k0, (), M0) : Option (Nat × Unit × xM)) = some (k, r, M') → WW p l e rm s m args below meth c cells slots Q nL D g tb pc lv st M0) →
      WW p l e rm s m args below meth c 0 0 Q nL D g tb 0 lv [] M) : tV l D g tb y cc nL rm mc as M k M' := by
  intro sz
  refine x_tstart hy hown' hlv hln hT ?_
  rintro p e s m below meth c rfl C0 hr hlk htab
  refine body p e s m _ below meth c _ C0 ?_ ?_ ?_
  · intro pc lv cells slots M0 a1 a2 hf hd
    cases hf
    exact fun H locs ls h1 h2 h3 => W.widen a1 a2 (vx_ret (W.vret C0.1 C0.2.1 hr (fun t ht hW => ⟨⟨(), rfl, rfl, x_Bend C0 h1 h2 ht hW⟩, h2.F ht⟩) h2.2.2 hd hlk))
  · intro pc H locs ls rest E ce q k0 cells slots M0 a1 a2 a3 a4 a5 a6 a7 a8 a9 hf
    cases hf
    exact r_out hlk htab a3 a4 a5 a6 a7 a8 a9 a1 a2
  · intro pc ik ic is si k0 cells slots lv st tx M0 b1 b2 b3 b4 b5 d0 d3 dd c1 c2 c3 c4 c5 c6 hf
    cases hf
    rcases dd with ⟨d4, d6, d9⟩ | ⟨d4, d6, d9⟩
    · exact r_throw C0 b1 hlk htab b2 b3 b4 b5 d0 d3 d4 d6 d9 c1 c2 c3 c4 c5 c6
    · exact r_throww C0 b1 hlk htab b2 b3 b4 b5 d0 d3 d4 d6 d9 c1 c2 c3 c4 c5 c6
theorem x_tstartR {l : Launch} {D : va_G} {g : xG} {tb : List xQ} {M M' : xM} {y : MethodName} {cc : ByteArray} {nL mc : Nat} {rm : Room} {as : List Value} {own : String} {lv : List (Nat × Value)} {k : Nat} {r kd : Nat} {n : String}
    (hy : plainName y.cls = true) (hown' : y.cls = own) (hlv : lv_args 0 as = lv) (hln : (lg_sl as).length ≤ nL) (hT : x_T g tb)
    (body : ∀ (p : Program) (e : Env) (s : State) (m : MethodId) (args : Array Value) (below : List Frame) (meth : Method) (c : Code) (Q : State → Prop), CC p s m args c cc nL own D g tb →
      (∀ {pc : Nat} {lv : List (Nat × Value)} {cells slots : Nat} {v : Nat} {M0 : xM}, ((kd, v, 0) : xQ) ∈ tb → cells ≤ mc → slots ≤ 6 * mc → (some (0, v, M0) : Option (Nat × Nat × xM)) = some (k, r, M') → decode cc pc = .ok (.areturn, 1) → WW p l e rm s m args below meth c cells slots Q nL D g tb pc lv [.ref (g.1 kd v)] M0) →
      (∀ {pc : Nat} {H : Heap} {locs : List Loc} {ls : Array Slot} {rest : List Value} {E : String} {ce : Cell} {q : Addr} {k0 cells slots : Nat} {M0 : xM}, cells ≤ mc → slots ≤ 6 * mc → ¬ k0 = 0 → E = x_ex k0 → x_H D g tb M0 H → va_S (x_A g tb s.heap.size) s.heap H locs → H[q]? = some ce → ce.vm = .none → s.vm.findClass E = some ce.cls → (some (k0, (0 : Nat), M0) : Option (Nat × Nat × xM)) = some (k, r, M') → vx_W p l e rm s m args below meth c H locs cells slots Q (F0 m pc ls rest) q) →
      (∀ {pc ik ic is si k0 cells slots : Nat} {lv : List (Nat × Value)} {st : List Value} {tx : String} {M0 : xM}, l.stackTraces = false → own = RX6 → x_tk k0 ik ic → ¬ k0 = 0 → x_sl[si]? = some (own, is, tx) → decode cc pc = .ok (.new ik, 3) → decode cc (pc + 3) = .ok (.dup, 1) → ((decode cc (pc + 4) = .ok (.ldc is, 2) ∧ decode cc (pc + 6) = .ok (.invokespecial ic, 3) ∧ decode cc (pc + 9) = .ok (.athrow, 1)) ∨ (decode cc (pc + 4) = .ok (.ldc_w is, 3) ∧ decode cc (pc + 7) = .ok (.invokespecial ic, 3) ∧ decode cc (pc + 10) = .ok (.athrow, 1))) →
        5 < rm.frames → (st.map fun v => v.category).sum + 82 ≤ rm.locals → cells + 1 ≤ rm.cells → slots + 6 ≤ rm.slots → cells + 1 ≤ mc → slots + 6 ≤ 6 * mc → (some (k0, (0 : Nat), M0) : Option (Nat × Nat × xM)) = some (k, r, M') → WW p l e rm s m args below meth c cells slots Q nL D g tb pc lv st M0) →
      WW p l e rm s m args below meth c 0 0 Q nL D g tb 0 lv [] M) : tR l D g tb y cc nL (.object n) kd rm mc as M k r M' := by
  intro sz
  refine x_tstart hy hown' hlv hln hT ?_
  rintro p e s m below meth c rfl C0 hr hlk htab
  refine body p e s m _ below meth c _ C0 ?_ ?_ ?_
  · intro pc lv cells slots v M0 a0 a1 a2 hf hd
    cases hf
    exact fun H locs ls h1 h2 h3 => W.widen a1 a2 (vx_ret (W.aret C0.1 C0.2.1 hr (Or.inl ⟨n, rfl⟩) (Or.inr ⟨_, rfl⟩) (fun t ht hW => ⟨⟨(), _, rfl, ⟨rfl, a0⟩, rfl, x_Bend C0 h1 h2 ht hW⟩, h2.F ht⟩) h2.2.2 hd hlk))
  · intro pc H locs ls rest E ce q k0 cells slots M0 a1 a2 a3 a4 a5 a6 a7 a8 a9 hf
    cases hf
    exact r_out hlk htab a3 a4 a5 a6 a7 a8 a9 a1 a2
  · intro pc ik ic is si k0 cells slots lv st tx M0 b1 b2 b3 b4 b5 d0 d3 dd c1 c2 c3 c4 c5 c6 hf
    cases hf
    rcases dd with ⟨d4, d6, d9⟩ | ⟨d4, d6, d9⟩
    · exact r_throw C0 b1 hlk htab b2 b3 b4 b5 d0 d3 d4 d6 d9 c1 c2 c3 c4 c5 c6
    · exact r_throww C0 b1 hlk htab b2 b3 b4 b5 d0 d3 d4 d6 d9 c1 c2 c3 c4 c5 c6
section XUC
variable {p : Program} {l : Launch} {e : Env} {R : Room} {s : State} {m : MethodId} {args : Array Value} {below : List Frame} {meth : Method} {c : Code} {cells slots : Nat} {Q : State → Prop}
variable {cc : ByteArray} {nL : Nat} {own : String} {D : va_G} {g : xG} {tb : List xQ} {pc : Nat} {lv : List (Nat × Value)} {st : List Value} {M : xM}
theorem vx_callr_ {H : Heap} {locs : List Loc} {mc ms : Nat} {ls : Array Slot} {st0 rest : List Value} {A0 A1 AX : Nat → Prop} {H0 : Heap} {a : Array Value} {free : Addr → Prop} {S SX : Type} {post : S → Prop} {px : SX → Prop} {B : S → Nat → State → Prop} {BX : String → SX → State → Prop} (hr : vx_Run p l e R s m args below meth c H locs cells slots mc ms (F0 m pc ls st0) rest (va_Qr post B A1 a) (vx_X px BX AX) free) (hS : va_S A0 H0 H locs) (hA : ∀ q, q < H.size → A1 q → A0 q) (hf : ∀ q, free q → A0 q) (hAX : ∀ q, q < H.size → AX q → A0 q)
    (kx : ∀ (E : String) (ce : Cell) (q9 : Addr) (u : SX) (t : State) (H1 : Heap) (locs1 : List Loc), t.heap = H1 → s.vm.Alike t.vm → px u → BX E u t → H.size ≤ H1.size → (∀ q : Nat, q < H.size → ¬ AX q → H1[q]? = H[q]?) → va_S A0 H0 H1 locs1 → H1[q9]? = some ce → ce.vm = .none → s.vm.findClass E = some ce.cls → vx_W p l e R s m args below meth c H1 locs1 (cells + mc) (slots + ms) Q (F0 m pc ls rest) q9)
    (kk : ∀ (u : S) (ra : Nat) (t : State) (H1 : Heap) (locs1 : List Loc), t.heap = H1 → s.vm.Alike t.vm → post u → B u ra t → H.size ≤ H1.size → (∀ q : Nat, q < H.size → ¬ A1 q → H1[q]? = H[q]?) → va_S A0 H0 H1 locs1 → W p l e R s m args below meth c H1 locs1 (cells + mc) (slots + ms) Q (F0 m (pc + 3) ls (.ref ra :: rest))) : W p l e R s m args below meth c H locs cells slots Q (F0 m pc ls st0) := by
  intro T hT X
  rcases hr T hT X with ⟨v, st₀, t, T', L, h0, X', hL, e1, e2, ⟨⟨u, ra, hv, hp, hb⟩, hF⟩, st⟩ | ⟨q, st₀, t, T', L, E, ce, h0, X', hL, e1, e2, ⟨u, hp, hb, hF⟩, hce, hcv, hcl, st⟩
  · cases hv
    obtain ⟨k1, k2, k3⟩ := vx_keep h0 e1 hS hA hf hL hF
    obtain ⟨t2, a1, b1⟩ := kk u ra t T'.heap (locs ++ L) e1.symm (by rw [← e2]; exact X'.warmed.alike) hp hb k1 k2 k3 T' rfl X'
    exact ⟨t2, st t2 a1, b1⟩
  · obtain ⟨k1, k2, k3⟩ := vx_keep h0 e1 hS hAX hf hL hF
    obtain ⟨t2, a1, b1⟩ := kx E ce q u t T'.heap (locs ++ L) e1.symm (by rw [← e2]; exact X'.warmed.alike) hp hb k1 k2 k3 (by rw [e1]; exact hce) hcv hcl T' rfl X'
    exact ⟨t2, st.trans a1, b1⟩
theorem r_tcallVi (C0 : CC p s m args c cc nL own D g tb) {y : MethodName} {bytes : ByteArray} {maxL idx n mc1 k1 : Nat} {rm : Room} {As rest stk : List Value} {C : String} {a : Nat} {ret : FieldType} {r : Int32} {M' : xM}
    (hM : tI l D g tb y bytes maxL ret rm mc1 (.ref a :: As) M k1 r M') (w1 : Cond.methodLink own idx y ∈ xA) (w2 : Cond.instanceMethod y ∈ xA) (w3 : Cond.selects C y y ∈ xA) (w4 : Cond.initialized C ∈ xA) (w5 : Cond.code y bytes maxL (some ret) ∈ xA)
    (hrec : ∀ (M : xM) (H : Heap) (locs : List Loc), x_H D g tb M H → va_S (x_A g tb s.heap.size) s.heap H locs → ∃ cell : Cell, H[a]? = some cell ∧ cell.vm.isStatics = false ∧ s.vm.findClass C = some cell.cls)  (hdd : y.cls = C ∧ y.cls ≠ "java/lang/invoke/MethodHandle" ∧ y.cls ≠ "java/lang/invoke/VarHandle" ∧ (parseMethodDescriptor y.desc).map (fun d => d.parameters.length) = some n) (hn : As.length = n) (hrm : rm.cells = mc1 ∧ rm.slots = 6 * mc1) (hR : rm.frames + 1 ≤ R.frames ∧ 8 + (maxL + 11) + rm.locals ≤ R.locals) (hfc : cells + mc1 ≤ R.cells) (hfs : slots + 6 * mc1 ≤ R.slots)
    (hst : stk = As.reverse ++ .ref a :: rest) (hcat : (rest.map fun v => v.category).sum ≤ 8) (hd : decode cc pc = .ok (.invokevirtual idx, 3))
    (kx : ∀ (H1 : Heap) (locs1 : List Loc) (ls : Array Slot) (E : String) (ce : Cell) (q : Addr), ¬ k1 = 0 → E = x_ex k1 → x_H D g tb M' H1 → va_S (x_A g tb s.heap.size) s.heap H1 locs1 → lv_has ls nL lv → H1[q]? = some ce → ce.vm = .none → s.vm.findClass E = some ce.cls → vx_W p l e R s m args below meth c H1 locs1 (cells + mc1) (slots + 6 * mc1) Q (F0 m pc ls rest) q)
    (k : k1 = 0 → WW p l e R s m args below meth c (cells + mc1) (slots + 6 * mc1) Q nL D g tb (pc + 3) lv (.int r :: rest) M') : WW p l e R s m args below meth c cells slots Q nL D g tb pc lv stk M := by
  intro H locs ls h1 h2 h3
  subst hst
  obtain ⟨hx, hb, hml, hown, hts, hK, hT, hKS⟩ := C0
  obtain ⟨hrc, hrs⟩ := hrm
  refine vx_calli (vx_runV (As := As) (rest := rest) ⟨hx, hb, hml, hown, hts⟩ (hM H.size) (cwV n hts (x_goodV w1 w2 w3 w4 w5) rfl hrc hrs hdd hR) ⟨x_blind, hrec M H _ h1 h2, fun U hU hW => ⟨rfl, by rw [hU], by rw [hU]; exact h1, va_K.moved hW.alike hK, x_KS.kept hKS h2 hU hW⟩⟩ rfl hn h3.1 rfl (lv_room hcat) hd ⟨hfc, hfs⟩) h2 (fun q _ hq => x_Aup h2.1 q hq) (fun q hq => x_Aup h2.1 q hq) (fun q _ hq => x_Aup h2.1 q hq) ?_ ?_
  · rintro E ce q9 u t H1 locs1 ht hvm hk0 ⟨hE, hH⟩ hz1 hk1 hS1 hc1 hv1 hcl1
    exact kx H1 locs1 ls E ce q9 hk0 hE (ht ▸ hH) hS1 h3 hc1 hv1 hcl1
  · rintro r' u t H1 locs1 ht hvm ⟨hk0, rfl⟩ hB hz1 hk1 hS1
    exact k hk0 H1 locs1 ls (ht ▸ hB.1) hS1 h3
theorem r_tcallVv (C0 : CC p s m args c cc nL own D g tb) {y : MethodName} {bytes : ByteArray} {maxL idx n mc1 k1 : Nat} {rm : Room} {As rest stk : List Value} {C : String} {a : Nat} {M' : xM}
    (hM : tV l D g tb y bytes maxL rm mc1 (.ref a :: As) M k1 M') (w1 : Cond.methodLink own idx y ∈ xA) (w2 : Cond.instanceMethod y ∈ xA) (w3 : Cond.selects C y y ∈ xA) (w4 : Cond.initialized C ∈ xA) (w5 : Cond.code y bytes maxL none ∈ xA)
    (hrec : ∀ (M : xM) (H : Heap) (locs : List Loc), x_H D g tb M H → va_S (x_A g tb s.heap.size) s.heap H locs → ∃ cell : Cell, H[a]? = some cell ∧ cell.vm.isStatics = false ∧ s.vm.findClass C = some cell.cls)  (hdd : y.cls = C ∧ y.cls ≠ "java/lang/invoke/MethodHandle" ∧ y.cls ≠ "java/lang/invoke/VarHandle" ∧ (parseMethodDescriptor y.desc).map (fun d => d.parameters.length) = some n) (hn : As.length = n) (hrm : rm.cells = mc1 ∧ rm.slots = 6 * mc1) (hR : rm.frames + 1 ≤ R.frames ∧ 8 + (maxL + 11) + rm.locals ≤ R.locals) (hfc : cells + mc1 ≤ R.cells) (hfs : slots + 6 * mc1 ≤ R.slots)
    (hst : stk = As.reverse ++ .ref a :: rest) (hcat : (rest.map fun v => v.category).sum ≤ 8) (hd : decode cc pc = .ok (.invokevirtual idx, 3))
    (kx : ∀ (H1 : Heap) (locs1 : List Loc) (ls : Array Slot) (E : String) (ce : Cell) (q : Addr), ¬ k1 = 0 → E = x_ex k1 → x_H D g tb M' H1 → va_S (x_A g tb s.heap.size) s.heap H1 locs1 → lv_has ls nL lv → H1[q]? = some ce → ce.vm = .none → s.vm.findClass E = some ce.cls → vx_W p l e R s m args below meth c H1 locs1 (cells + mc1) (slots + 6 * mc1) Q (F0 m pc ls rest) q)
    (k : k1 = 0 → WW p l e R s m args below meth c (cells + mc1) (slots + 6 * mc1) Q nL D g tb (pc + 3) lv rest M') : WW p l e R s m args below meth c cells slots Q nL D g tb pc lv stk M := by
  intro H locs ls h1 h2 h3
  subst hst
  obtain ⟨hx, hb, hml, hown, hts, hK, hT, hKS⟩ := C0
  obtain ⟨hrc, hrs⟩ := hrm
  refine vx_callv (vx_runV (As := As) (rest := rest) ⟨hx, hb, hml, hown, hts⟩ (hM H.size) (cwV n hts (x_goodV w1 w2 w3 w4 w5) rfl hrc hrs hdd hR) ⟨x_blind, hrec M H _ h1 h2, fun U hU hW => ⟨rfl, by rw [hU], by rw [hU]; exact h1, va_K.moved hW.alike hK, x_KS.kept hKS h2 hU hW⟩⟩ rfl hn h3.1 rfl (lv_room hcat) hd ⟨hfc, hfs⟩) h2 (fun q _ hq => x_Aup h2.1 q hq) (fun q hq => x_Aup h2.1 q hq) (fun q _ hq => x_Aup h2.1 q hq) ?_ ?_
  · rintro E ce q9 u t H1 locs1 ht hvm hk0 ⟨hE, hH⟩ hz1 hk1 hS1 hc1 hv1 hcl1
    exact kx H1 locs1 ls E ce q9 hk0 hE (ht ▸ hH) hS1 h3 hc1 hv1 hcl1
  · rintro u t H1 locs1 ht hvm hk0 hB hz1 hk1 hS1
    exact k hk0 H1 locs1 ls (ht ▸ hB.1) hS1 h3
theorem r_tcallSi (C0 : CC p s m args c cc nL own D g tb) {y : MethodName} {bytes : ByteArray} {maxL idx n mc1 k1 : Nat} {rm : Room} {As rest stk : List Value} {ret : FieldType} {r : Int32} {M' : xM}
    (hM : tI l D g tb y bytes maxL ret rm mc1 (As) M k1 r M') (w1 : Cond.methodLink own idx y ∈ xA) (w2 : Cond.static y ∈ xA) (w4 : Cond.initialized y.cls ∈ xA) (w5 : Cond.code y bytes maxL (some ret) ∈ xA)
     (hdd : y.cls ≠ "java/lang/invoke/MethodHandle" ∧ y.cls ≠ "java/lang/invoke/VarHandle" ∧ (parseMethodDescriptor y.desc).map (fun d => d.parameters.length) = some n) (hn : As.length = n) (hrm : rm.cells = mc1 ∧ rm.slots = 6 * mc1) (hR : rm.frames + 1 ≤ R.frames ∧ 8 + (maxL + 11) + rm.locals ≤ R.locals) (hfc : cells + mc1 ≤ R.cells) (hfs : slots + 6 * mc1 ≤ R.slots)
    (hst : stk = As.reverse ++ rest) (hcat : (rest.map fun v => v.category).sum ≤ 8) (hd : decode cc pc = .ok (.invokestatic idx, 3))
    (kx : ∀ (H1 : Heap) (locs1 : List Loc) (ls : Array Slot) (E : String) (ce : Cell) (q : Addr), ¬ k1 = 0 → E = x_ex k1 → x_H D g tb M' H1 → va_S (x_A g tb s.heap.size) s.heap H1 locs1 → lv_has ls nL lv → H1[q]? = some ce → ce.vm = .none → s.vm.findClass E = some ce.cls → vx_W p l e R s m args below meth c H1 locs1 (cells + mc1) (slots + 6 * mc1) Q (F0 m pc ls rest) q)
    (k : k1 = 0 → WW p l e R s m args below meth c (cells + mc1) (slots + 6 * mc1) Q nL D g tb (pc + 3) lv (.int r :: rest) M') : WW p l e R s m args below meth c cells slots Q nL D g tb pc lv stk M := by
  intro H locs ls h1 h2 h3
  subst hst
  obtain ⟨hx, hb, hml, hown, hts, hK, hT, hKS⟩ := C0
  obtain ⟨hrc, hrs⟩ := hrm
  refine vx_calli (vx_runS (As := As) (rest := rest) ⟨hx, hb, hml, hown, hts⟩ (hM H.size) (va_cwS n hts (x_goodS w1 w2 w4 w5) rfl hrc hrs hdd hR) ⟨x_blind, fun U hU hW => ⟨rfl, by rw [hU], by rw [hU]; exact h1, va_K.moved hW.alike hK, x_KS.kept hKS h2 hU hW⟩⟩ rfl hn h3.1 rfl (lv_room hcat) hd ⟨hfc, hfs⟩) h2 (fun q _ hq => x_Aup h2.1 q hq) (fun q hq => x_Aup h2.1 q hq) (fun q _ hq => x_Aup h2.1 q hq) ?_ ?_
  · rintro E ce q9 u t H1 locs1 ht hvm hk0 ⟨hE, hH⟩ hz1 hk1 hS1 hc1 hv1 hcl1
    exact kx H1 locs1 ls E ce q9 hk0 hE (ht ▸ hH) hS1 h3 hc1 hv1 hcl1
  · rintro r' u t H1 locs1 ht hvm ⟨hk0, rfl⟩ hB hz1 hk1 hS1
    exact k hk0 H1 locs1 ls (ht ▸ hB.1) hS1 h3
theorem r_tcallSv (C0 : CC p s m args c cc nL own D g tb) {y : MethodName} {bytes : ByteArray} {maxL idx n mc1 k1 : Nat} {rm : Room} {As rest stk : List Value} {M' : xM}
    (hM : tV l D g tb y bytes maxL rm mc1 (As) M k1 M') (w1 : Cond.methodLink own idx y ∈ xA) (w2 : Cond.static y ∈ xA) (w4 : Cond.initialized y.cls ∈ xA) (w5 : Cond.code y bytes maxL none ∈ xA)
     (hdd : y.cls ≠ "java/lang/invoke/MethodHandle" ∧ y.cls ≠ "java/lang/invoke/VarHandle" ∧ (parseMethodDescriptor y.desc).map (fun d => d.parameters.length) = some n) (hn : As.length = n) (hrm : rm.cells = mc1 ∧ rm.slots = 6 * mc1) (hR : rm.frames + 1 ≤ R.frames ∧ 8 + (maxL + 11) + rm.locals ≤ R.locals) (hfc : cells + mc1 ≤ R.cells) (hfs : slots + 6 * mc1 ≤ R.slots)
    (hst : stk = As.reverse ++ rest) (hcat : (rest.map fun v => v.category).sum ≤ 8) (hd : decode cc pc = .ok (.invokestatic idx, 3))
    (kx : ∀ (H1 : Heap) (locs1 : List Loc) (ls : Array Slot) (E : String) (ce : Cell) (q : Addr), ¬ k1 = 0 → E = x_ex k1 → x_H D g tb M' H1 → va_S (x_A g tb s.heap.size) s.heap H1 locs1 → lv_has ls nL lv → H1[q]? = some ce → ce.vm = .none → s.vm.findClass E = some ce.cls → vx_W p l e R s m args below meth c H1 locs1 (cells + mc1) (slots + 6 * mc1) Q (F0 m pc ls rest) q)
    (k : k1 = 0 → WW p l e R s m args below meth c (cells + mc1) (slots + 6 * mc1) Q nL D g tb (pc + 3) lv rest M') : WW p l e R s m args below meth c cells slots Q nL D g tb pc lv stk M := by
  intro H locs ls h1 h2 h3
  subst hst
  obtain ⟨hx, hb, hml, hown, hts, hK, hT, hKS⟩ := C0
  obtain ⟨hrc, hrs⟩ := hrm
  refine vx_callv (vx_runS (As := As) (rest := rest) ⟨hx, hb, hml, hown, hts⟩ (hM H.size) (va_cwS n hts (x_goodS w1 w2 w4 w5) rfl hrc hrs hdd hR) ⟨x_blind, fun U hU hW => ⟨rfl, by rw [hU], by rw [hU]; exact h1, va_K.moved hW.alike hK, x_KS.kept hKS h2 hU hW⟩⟩ rfl hn h3.1 rfl (lv_room hcat) hd ⟨hfc, hfs⟩) h2 (fun q _ hq => x_Aup h2.1 q hq) (fun q hq => x_Aup h2.1 q hq) (fun q _ hq => x_Aup h2.1 q hq) ?_ ?_
  · rintro E ce q9 u t H1 locs1 ht hvm hk0 ⟨hE, hH⟩ hz1 hk1 hS1 hc1 hv1 hcl1
    exact kx H1 locs1 ls E ce q9 hk0 hE (ht ▸ hH) hS1 h3 hc1 hv1 hcl1
  · rintro u t H1 locs1 ht hvm hk0 hB hz1 hk1 hS1
    exact k hk0 H1 locs1 ls (ht ▸ hB.1) hS1 h3
theorem r_tcallVr (C0 : CC p s m args c cc nL own D g tb) {y : MethodName} {bytes : ByteArray} {maxL idx n mc1 k1 : Nat} {rm : Room} {As rest stk : List Value} {C : String} {a : Nat} {ret : FieldType} {kd r : Nat} {M' : xM}
    (hM : tR l D g tb y bytes maxL ret kd rm mc1 (.ref a :: As) M k1 r M') (w1 : Cond.methodLink own idx y ∈ xA) (w2 : Cond.instanceMethod y ∈ xA) (w3 : Cond.selects C y y ∈ xA) (w4 : Cond.initialized C ∈ xA) (w5 : Cond.code y bytes maxL (some ret) ∈ xA)
    (hrec : ∀ (M : xM) (H : Heap) (locs : List Loc), x_H D g tb M H → va_S (x_A g tb s.heap.size) s.heap H locs → ∃ cell : Cell, H[a]? = some cell ∧ cell.vm.isStatics = false ∧ s.vm.findClass C = some cell.cls)  (hdd : y.cls = C ∧ y.cls ≠ "java/lang/invoke/MethodHandle" ∧ y.cls ≠ "java/lang/invoke/VarHandle" ∧ (parseMethodDescriptor y.desc).map (fun d => d.parameters.length) = some n) (hn : As.length = n) (hrm : rm.cells = mc1 ∧ rm.slots = 6 * mc1) (hR : rm.frames + 1 ≤ R.frames ∧ 8 + (maxL + 11) + rm.locals ≤ R.locals) (hfc : cells + mc1 ≤ R.cells) (hfs : slots + 6 * mc1 ≤ R.slots)
    (hst : stk = As.reverse ++ .ref a :: rest) (hcat : (rest.map fun v => v.category).sum ≤ 8) (hd : decode cc pc = .ok (.invokevirtual idx, 3))
    (kx : ∀ (H1 : Heap) (locs1 : List Loc) (ls : Array Slot) (E : String) (ce : Cell) (q : Addr), ¬ k1 = 0 → E = x_ex k1 → x_H D g tb M' H1 → va_S (x_A g tb s.heap.size) s.heap H1 locs1 → lv_has ls nL lv → H1[q]? = some ce → ce.vm = .none → s.vm.findClass E = some ce.cls → vx_W p l e R s m args below meth c H1 locs1 (cells + mc1) (slots + 6 * mc1) Q (F0 m pc ls rest) q)
    (k : ((kd, r, 0) : xQ) ∈ tb → k1 = 0 → WW p l e R s m args below meth c (cells + mc1) (slots + 6 * mc1) Q nL D g tb (pc + 3) lv (.ref (g.1 kd r) :: rest) M') : WW p l e R s m args below meth c cells slots Q nL D g tb pc lv stk M := by
  intro H locs ls h1 h2 h3
  subst hst
  obtain ⟨hx, hb, hml, hown, hts, hK, hT, hKS⟩ := C0
  obtain ⟨hrc, hrs⟩ := hrm
  refine vx_callr_ (vx_runV (As := As) (rest := rest) ⟨hx, hb, hml, hown, hts⟩ (hM H.size) (cwV n hts (x_goodV w1 w2 w3 w4 w5) rfl hrc hrs hdd hR) ⟨x_blind, hrec M H _ h1 h2, fun U hU hW => ⟨rfl, by rw [hU], by rw [hU]; exact h1, va_K.moved hW.alike hK, x_KS.kept hKS h2 hU hW⟩⟩ rfl hn h3.1 rfl (lv_room hcat) hd ⟨hfc, hfs⟩) h2 (fun q _ hq => x_Aup h2.1 q hq) (fun q hq => x_Aup h2.1 q hq) (fun q _ hq => x_Aup h2.1 q hq) ?_ ?_
  · rintro E ce q9 u t H1 locs1 ht hvm hk0 ⟨hE, hH⟩ hz1 hk1 hS1 hc1 hv1 hcl1
    exact kx H1 locs1 ls E ce q9 hk0 hE (ht ▸ hH) hS1 h3 hc1 hv1 hcl1
  · rintro u ra t H1 locs1 ht hvm ⟨hk0, hm0⟩ ⟨rfl, hB⟩ hz1 hk1 hS1
    exact k hm0 hk0 H1 locs1 ls (ht ▸ hB.1) hS1 h3
end XUC
/-- a call that may throw -/
def tbd {α β γ : Type} (z : β) (o : Option (Nat × α × γ)) (f : α → γ → Option (Nat × β × γ)) : Option (Nat × β × γ) := match o with
  | some q => if q.1 = 0 then f q.2.1 q.2.2 else some (q.1, z, q.2.2)
  | none => none
theorem tbd_e {α β γ : Type} {z : β} {o : Option (Nat × α × γ)} {f : α → γ → Option (Nat × β × γ)} {res : Nat × β × γ} (h : tbd z o f = some res) : ∃ k r M, o = some (k, r, M) ∧ (¬ k = 0 → some (k, z, M) = some res) ∧ (k = 0 → f r M = some res) := by
  cases o with
  | none => cases h
  | some q => exact ⟨q.1, q.2.1, q.2.2, rfl, fun hk => (if_neg hk).symm.trans h, fun hk => (if_pos hk).symm.trans h⟩
theorem tbd_0 {α β γ : Type} {z : β} {o : Option (Nat × α × γ)} {f : α → γ → Option (Nat × β × γ)} {r : α} {M : γ} (h : o = some (0, r, M)) : tbd z o f = f r M := by rw [h]; rfl
theorem tbd_x {α β γ : Type} {z : β} {o : Option (Nat × α × γ)} {f : α → γ → Option (Nat × β × γ)} {k : Nat} {r : α} {M : γ} (h : o = some (k + 1, r, M)) : tbd z o f = some (k + 1, z, M) := by rw [h]; rfl
