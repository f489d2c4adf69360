/-! what lies in a table; starts by the kind of the answer; switches, Math -/
def x_mk (tb : List xQ) (b : Nat) : Prop := (2, b, 0) ∈ tb ∧ (10, b + 23, 6) ∈ tb ∧ (11, b + 77, 6) ∈ tb ∧ (6, b + 11, 12) ∈ tb ∧ (∀ i, i < 6 → (0, b + 23 + 9 * i, 0) ∈ tb) ∧ ∀ i, i < 6 → (1, b + 77 + 8 * i, 0) ∈ tb
def x_rd (tb : List xQ) : Prop := (3, 1777, 0) ∈ tb ∧ (7, 1792, 700) ∈ tb ∧ (6, 1787, 5) ∈ tb
def x_fb (tb : List xQ) : Prop := (4, 1664, 0) ∈ tb ∧ x_mk tb 0 ∧ x_mk tb 128 ∧ x_mk tb 256 ∧ x_rd tb ∧ (12, 384, 8) ∈ tb ∧ (12, 1408, 2) ∈ tb ∧ (8, 1675, 2) ∈ tb ∧ (7, 1677, 100) ∈ tb ∧ (∀ i, i < 8 → x_mk tb (384 + 128 * i)) ∧ ∀ i, i < 2 → x_mk tb (1408 + 128 * i)
def iabs (x : Int32) : Int32 := if 0 ≤ x then x else 0 - x
def imin (x y : Int32) : Int32 := if y < x then y else x
def imax (x y : Int32) : Int32 := if x < y then y else x
theorem x_startI {l : Launch} {D : va_G} {g : xG} {tb : List xQ} {M M' : xM} {y : MethodName} {cc : ByteArray} {nL : Nat} {rm : Room} {as : List Value} {own : String} {lv : List (Nat × Value)} {r : Int32}
    (hy : plainName y.cls = true) (hown' : y.cls = own) (hlv : lv_args 0 as = lv) (hln : (lg_sl as).length ≤ nL) (hT : x_T g tb)
    (body : ∀ (p : Program) (e : Env) (s : State) (m : MethodId) (args : Array Value) (below : List Frame) (meth : Method) (c : Code) (Q : State → Prop), CC p s m args c cc nL own D g tb → (∀ {pc : Nat} {lv : List (Nat × Value)} {v : Int32} {M0 : xM}, (some (v, M0) : Option (Int32 × xM)) = some (r, M') → decode cc pc = .ok (.ireturn, 1) → WW p l e rm s m args below meth c 0 0 Q nL D g tb pc lv [.int v] M0) → WW p l e rm s m args below meth c 0 0 Q nL D g tb 0 lv [] M) : cI l D g tb y cc nL .int rm as M r M' := by
  intro sz
  refine x_start hy hown' hlv hln hT ?_
  rintro p e s m below meth c rfl C0 hr hlk
  exact body p e s m _ below meth c _ C0 (fun hf hd => r_iret C0 hr hlk hf hd)
theorem x_startR {l : Launch} {D : va_G} {g : xG} {tb : List xQ} {M M' : xM} {y : MethodName} {cc : ByteArray} {nL : Nat} {rm : Room} {as : List Value} {own : String} {lv : List (Nat × Value)} {r kd : Nat} {n : String}
    (hy : plainName y.cls = true) (hown' : y.cls = own) (hlv : lv_args 0 as = lv) (hln : (lg_sl as).length ≤ nL) (hT : x_T g tb)
    (body : ∀ (p : Program) (e : Env) (s : State) (m : MethodId) (args : Array Value) (below : List Frame) (meth : Method) (c : Code) (Q : State → Prop), CC p s m args c cc nL own D g tb → (∀ {pc : Nat} {lv : List (Nat × Value)} {v : Nat} {M0 : xM}, ((kd, v, 0) : xQ) ∈ tb → (some (v, M0) : Option (Nat × xM)) = some (r, M') → decode cc pc = .ok (.areturn, 1) → WW p l e rm s m args below meth c 0 0 Q nL D g tb pc lv [.ref (g.1 kd v)] M0) → WW p l e rm s m args below meth c 0 0 Q nL D g tb 0 lv [] M) : cR l D g tb y cc nL (.object n) kd rm as M r M' := by
  intro sz
  refine x_start hy hown' hlv hln hT ?_
  rintro p e s m below meth c rfl C0 hr hlk
  exact body p e s m _ below meth c _ C0 (fun hm0 hf hd => r_aret C0 hm0 hr hlk hf hd)
theorem x_startZ {l : Launch} {D : va_G} {g : xG} {tb : List xQ} {M M' : xM} {y : MethodName} {cc : ByteArray} {nL : Nat} {rm : Room} {as : List Value} {own : String} {lv : List (Nat × Value)} {r : Int32}
    (hy : plainName y.cls = true) (hown' : y.cls = own) (hlv : lv_args 0 as = lv) (hln : (lg_sl as).length ≤ nL) (hT : x_T g tb)
    (body : ∀ (p : Program) (e : Env) (s : State) (m : MethodId) (args : Array Value) (below : List Frame) (meth : Method) (c : Code) (Q : State → Prop), CC p s m args c cc nL own D g tb → (∀ {pc : Nat} {lv : List (Nat × Value)} {v : Int32} {M0 : xM}, isb v = true → (some (v, M0) : Option (Int32 × xM)) = some (r, M') → decode cc pc = .ok (.ireturn, 1) → WW p l e rm s m args below meth c 0 0 Q nL D g tb pc lv [.int v] M0) → WW p l e rm s m args below meth c 0 0 Q nL D g tb 0 lv [] M) : cI l D g tb y cc nL .boolean rm as M r M' := by
  intro sz
  refine x_start hy hown' hlv hln hT ?_
  rintro p e s m below meth c rfl C0 hr hlk
  exact body p e s m _ below meth c _ C0 (fun hz hf hd => r_zret C0 hr hlk hz hf hd)
theorem x_startV {l : Launch} {D : va_G} {g : xG} {tb : List xQ} {M M' : xM} {y : MethodName} {cc : ByteArray} {nL : Nat} {rm : Room} {as : List Value} {own : String} {lv : List (Nat × Value)}
    (hy : plainName y.cls = true) (hown' : y.cls = own) (hlv : lv_args 0 as = lv) (hln : (lg_sl as).length ≤ nL) (hT : x_T g tb)
    (body : ∀ (p : Program) (e : Env) (s : State) (m : MethodId) (args : Array Value) (below : List Frame) (meth : Method) (c : Code) (Q : State → Prop), CC p s m args c cc nL own D g tb → (∀ {pc : Nat} {lv : List (Nat × Value)} {M0 : xM}, (some M0 : Option xM) = some M' → decode cc pc = .ok (.return_, 1) → WW p l e rm s m args below meth c 0 0 Q nL D g tb pc lv [] M0) → WW p l e rm s m args below meth c 0 0 Q nL D g tb 0 lv [] M) : cV l D g tb y cc nL rm as M M' := by
  intro sz
  refine x_start hy hown' hlv hln hT ?_
  rintro p e s m below meth c rfl C0 hr hlk
  exact body p e s m _ below meth c _ C0 (fun hf hd => r_vret C0 hr hlk hf hd)
section XS
variable {p : Program} {l : Launch} {e : Env} {R : Room} {s : State} {m : MethodId} {args : Array Value} {below : List Frame} {meth : Method} {c : Code} {cells slots : Nat} {Q : State → Prop}
variable {cc : ByteArray} {nL : Nat} {own : String} {D : va_G} {g : xG} {tb : List xQ} {pc : Nat} {lv : List (Nat × Value)} {st : List Value} {M : xM}
theorem r_tsc (C0 : CC p s m args c cc nL own D g tb) {dflt lo hi : Int} {offs : Array Int} {len : Nat} {x : Int32} {cst : Int32} {off : Int} {tgt : Nat} (hq : x = cst) (h1 : ¬ cst.toInt < lo) (h2 : ¬ hi < cst.toInt) (ho : offs[(cst.toInt - lo).toNat]? = some off) (ht : (pc : Int) + off = (tgt : Int)) (hd : decode cc pc = .ok (.tableswitch dflt lo hi offs, len)) (k : WW p l e R s m args below meth c cells slots Q nL D g tb tgt lv st M) : WW p l e R s m args below meth c cells slots Q nL D g tb pc lv (.int x :: st) M := by
  subst hq
  exact fun H locs ls h4 h5 h6 => lv_tableIn C0.1 C0.2.1 hd h1 h2 ho ht (k H locs ls h4 h5 h6)
theorem r_tsd (C0 : CC p s m args c cc nL own D g tb) {dflt lo hi : Int} {offs : Array Int} {len : Nat} {x : Int32} {tgt : Nat} (h : x.toInt < lo ∨ hi < x.toInt) (ht : (pc : Int) + dflt = (tgt : Int)) (hd : decode cc pc = .ok (.tableswitch dflt lo hi offs, len)) (k : WW p l e R s m args below meth c cells slots Q nL D g tb tgt lv st M) : WW p l e R s m args below meth c cells slots Q nL D g tb pc lv (.int x :: st) M :=
  fun H locs ls h4 h5 h6 => lv_tableOut C0.1 C0.2.1 hd h ht (k H locs ls h4 h5 h6)
theorem r_abs (C0 : CC p s m args c cc nL own D g tb) {idx : Nat} {x : Int32} (w1 : Cond.methodLink own idx Lib.Math.abs.name ∈ xA) (w2 : Cond.static Lib.Math.abs.name ∈ xA) (w3 : Cond.initialized "java/lang/Math" ∈ xA) (w4 : Cond.code Lib.Math.abs.name Lib.Math.abs.code 1 (some .int) ∈ xA) (hfr : 1 ≤ R.frames) (hlo : (st.map fun v => v.category).sum + 13 ≤ R.locals) (hc : cells ≤ R.cells) (hs : slots ≤ R.slots) (hd : decode cc pc = .ok (.invokestatic idx, 3)) (k : WW p l e R s m args below meth c cells slots Q nL D g tb (pc + 3) lv (.int (iabs x) :: st) M) : WW p l e R s m args below meth c cells slots Q nL D g tb pc lv (.int x :: st) M :=
  fun H locs ls h4 h5 h6 => va_mabs C0.1 C0.2.1 (C0.2.2.1.trans h6.1.symm) C0.2.2.2.1 (C0.2.2.2.2.1 _ w1) (C0.2.2.2.2.1 _ w2) (C0.2.2.2.2.1 _ w3) (C0.2.2.2.2.1 _ w4) hfr hlo hc hs hd (k H locs ls h4 h5 h6)
theorem r_min (C0 : CC p s m args c cc nL own D g tb) {idx : Nat} {x y : Int32} (w1 : Cond.methodLink own idx Lib.Math.min.name ∈ xA) (w2 : Cond.static Lib.Math.min.name ∈ xA) (w3 : Cond.initialized "java/lang/Math" ∈ xA) (w4 : Cond.code Lib.Math.min.name Lib.Math.min.code 2 (some .int) ∈ xA) (hfr : 1 ≤ R.frames) (hlo : (st.map fun v => v.category).sum + 13 ≤ R.locals) (hc : cells ≤ R.cells) (hs : slots ≤ R.slots) (hd : decode cc pc = .ok (.invokestatic idx, 3)) (k : WW p l e R s m args below meth c cells slots Q nL D g tb (pc + 3) lv (.int (imin x y) :: st) M) : WW p l e R s m args below meth c cells slots Q nL D g tb pc lv (.int y :: .int x :: st) M :=
  fun H locs ls h4 h5 h6 => va_mmin C0.1 C0.2.1 (C0.2.2.1.trans h6.1.symm) C0.2.2.2.1 (C0.2.2.2.2.1 _ w1) (C0.2.2.2.2.1 _ w2) (C0.2.2.2.2.1 _ w3) (C0.2.2.2.2.1 _ w4) hfr hlo hc hs hd (k H locs ls h4 h5 h6)
theorem r_max (C0 : CC p s m args c cc nL own D g tb) {idx : Nat} {x y : Int32} (w1 : Cond.methodLink own idx Lib.Math.max.name ∈ xA) (w2 : Cond.static Lib.Math.max.name ∈ xA) (w3 : Cond.initialized "java/lang/Math" ∈ xA) (w4 : Cond.code Lib.Math.max.name Lib.Math.max.code 2 (some .int) ∈ xA) (hfr : 1 ≤ R.frames) (hlo : (st.map fun v => v.category).sum + 13 ≤ R.locals) (hc : cells ≤ R.cells) (hs : slots ≤ R.slots) (hd : decode cc pc = .ok (.invokestatic idx, 3)) (k : WW p l e R s m args below meth c cells slots Q nL D g tb (pc + 3) lv (.int (imax x y) :: st) M) : WW p l e R s m args below meth c cells slots Q nL D g tb pc lv (.int y :: .int x :: st) M :=
  fun H locs ls h4 h5 h6 => va_mmax C0.1 C0.2.1 (C0.2.2.1.trans h6.1.symm) C0.2.2.2.1 (C0.2.2.2.2.1 _ w1) (C0.2.2.2.2.1 _ w2) (C0.2.2.2.2.1 _ w3) (C0.2.2.2.2.1 _ w4) hfr hlo hc hs hd (k H locs ls h4 h5 h6)
theorem r_ineg (C0 : CC p s m args c cc nL own D g tb) {x : Int32} (hd : decode cc pc = .ok (.ineg, 1)) (k : WW p l e R s m args below meth c cells slots Q nL D g tb (pc + 1) lv (.int (-x) :: st) M) : WW p l e R s m args below meth c cells slots Q nL D g tb pc lv (.int x :: st) M := fun H locs ls h1 h2 h3 => lv_ineg C0.1 C0.2.1 hd (k H locs ls h1 h2 h3)
end XS
theorem isb_fit {v : Int32} (h : isb v = true) : fits .boolean (.int v) = true := by
  unfold isb at h
  simp only [Bool.or_eq_true, beq_iff_eq] at h
  rcases h with rfl | rfl <;> rfl
def lp {α : Type} (z : α) (F : α → α) : Nat → α
  | 0 => z
  | n + 1 => F (lp z F n)
theorem lp_ind {α : Type} {z : α} {F : α → α} {P : α → Prop} (hz : P z) (hs : ∀ f, P f → P (F f)) : ∀ n, P (lp z F n)
  | 0 => hz
  | n + 1 => hs _ (lp_ind hz hs n)
section XT
variable {p : Program} {l : Launch} {e : Env} {R : Room} {s : State} {m : MethodId} {args : Array Value} {below : List Frame} {meth : Method} {c : Code} {cells slots : Nat} {Q : State → Prop}
variable {cc : ByteArray} {nL : Nat} {own : String} {D : va_G} {g : xG} {tb : List xQ} {pc : Nat} {lv : List (Nat × Value)} {st : List Value} {M : xM}
theorem r_ialdc (C0 : CC p s m args c cc nL own D g tb) {b n z : Nat} {i : Int32} (hq : (6, b, n) ∈ tb) (hin : inb i n = true) (hz : b + i.toNatClampNeg = z) (hd : decode cc pc = .ok (.iaload, 1)) (k : WW p l e R s m args below meth c cells slots Q nL D g tb (pc + 1) lv (.int (M z) :: st) M) : WW p l e R s m args below meth c cells slots Q nL D g tb pc lv (.int i :: .ref (g.1 6 b) :: st) M :=
  r_iald C0 hq (inb_in hin) hd (by rw [hz]; exact k)
theorem r_iastc (C0 : CC p s m args c cc nL own D g tb) {b n z : Nat} {i x : Int32} (hq : (6, b, n) ∈ tb) (hin : inb i n = true) (hz : b + i.toNatClampNeg = z) (hd : decode cc pc = .ok (.iastore, 1)) (k : WW p l e R s m args below meth c cells slots Q nL D g tb (pc + 1) lv st (upd M z x)) : WW p l e R s m args below meth c cells slots Q nL D g tb pc lv (.int x :: .int i :: .ref (g.1 6 b) :: st) M :=
  r_iast C0 hq (inb_in hin) hd (by rw [hz]; exact k)
theorem r_baldc (C0 : CC p s m args c cc nL own D g tb) {b n z : Nat} {i : Int32} (hq : (7, b, n) ∈ tb) (hin : inb i n = true) (hz : b + i.toNatClampNeg = z) (hd : decode cc pc = .ok (.baload, 1)) (k : WW p l e R s m args below meth c cells slots Q nL D g tb (pc + 1) lv (.int (M z) :: st) M) : WW p l e R s m args below meth c cells slots Q nL D g tb pc lv (.int i :: .ref (g.1 7 b) :: st) M :=
  r_bald C0 hq (inb_in hin) hd (by rw [hz]; exact k)
theorem r_bastc (C0 : CC p s m args c cc nL own D g tb) {b n z : Nat} {i x : Int32} (hq : (7, b, n) ∈ tb) (hin : inb i n = true) (hz : b + i.toNatClampNeg = z) (hd : decode cc pc = .ok (.bastore, 1)) (k : WW p l e R s m args below meth c cells slots Q nL D g tb (pc + 1) lv st (upd M z (vp_nar .byte x))) : WW p l e R s m args below meth c cells slots Q nL D g tb pc lv (.int x :: .int i :: .ref (g.1 7 b) :: st) M :=
  r_bast C0 hq (inb_in hin) hd (by rw [hz]; exact k)
theorem r_zaldc (C0 : CC p s m args c cc nL own D g tb) {b n z : Nat} {i : Int32} (hq : (8, b, n) ∈ tb) (hin : inb i n = true) (hz : b + i.toNatClampNeg = z) (hd : decode cc pc = .ok (.baload, 1)) (k : WW p l e R s m args below meth c cells slots Q nL D g tb (pc + 1) lv (.int (M z) :: st) M) : WW p l e R s m args below meth c cells slots Q nL D g tb pc lv (.int i :: .ref (g.1 8 b) :: st) M :=
  r_zald C0 hq (inb_in hin) hd (by rw [hz]; exact k)
theorem r_zastc (C0 : CC p s m args c cc nL own D g tb) {b n z : Nat} {i x : Int32} (hq : (8, b, n) ∈ tb) (hin : inb i n = true) (hz : b + i.toNatClampNeg = z) (hd : decode cc pc = .ok (.bastore, 1)) (k : WW p l e R s m args below meth c cells slots Q nL D g tb (pc + 1) lv st (upd M z (vp_nar .boolean x))) : WW p l e R s m args below meth c cells slots Q nL D g tb pc lv (.int x :: .int i :: .ref (g.1 8 b) :: st) M :=
  r_zast C0 hq (inb_in hin) hd (by rw [hz]; exact k)
theorem r_iincc (C0 : CC p s m args c cc nL own D g tb) {i : Nat} {n : Int} {x k0 : Int32} {lv2 : List (Nat × Value)} (j : Nat) (hj : lv[j]? = some (i, .int x)) (hv : Int32.ofInt n = k0) (hn : i < nL) (hl : (i, Value.int (x + k0)) :: lv.filter (fun q => !(q.1 == i) && !(q.1 + 1 == i && q.2.category == 2)) = lv2) (hd : decode cc pc = .ok (.iinc i n, 3)) (k : WW p l e R s m args below meth c cells slots Q nL D g tb (pc + 3) lv2 st M) : WW p l e R s m args below meth c cells slots Q nL D g tb pc lv st M :=
  r_iinc C0 j hj (by rw [hv]) hn hl hd k
end XT
