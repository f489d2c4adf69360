/-! rows of the law's own walk -/
def tbA : List xQ := (tbX ++ tbM) ++ tbO
theorem apt_A : aptL tbA := by
  have h := apt_all
  rw [← List.append_assoc] at h
  exact h
theorem fbA : x_fb tbA := fb_in (fun _ hq => List.mem_append_left _ (List.mem_append_left _ hq))
theorem mdA : x_md tbA := md_in (fun _ hq => List.mem_append_left _ (List.mem_append_right _ hq))
theorem fbXM : x_fb (tbX ++ tbM) := fb_in (fun _ hq => List.mem_append_left _ hq)
theorem mdXM : x_md (tbX ++ tbM) := md_in (fun _ hq => List.mem_append_right _ hq)
theorem oA : ((9, 5000, 1) : xQ) ∈ tbA := List.mem_append_right _ List.mem_cons_self
set_option maxRecDepth 100000 in
theorem lt_XM : ∀ q ∈ tbX ++ tbM, q.2.1 + x_sz q ≤ 5000 := by decide +kernel
theorem T_XM {g : xG} (hT : x_T g tbA) : x_T g (tbX ++ tbM) := by
  refine ⟨fun i j a b hi hj e => ?_, aptL_e apt_XM⟩
  have li := (List.getElem?_eq_some_iff.mp hi).1
  have lj := (List.getElem?_eq_some_iff.mp hj).1
  exact hT.1 i j a b (by unfold tbA; rw [List.getElem?_append_left li]; exact hi) (by unfold tbA; rw [List.getElem?_append_left lj]; exact hj) e
theorem x_A_XM {g : xG} {sz : Nat} : ∀ q, x_A g (tbX ++ tbM) sz q → x_A g tbA sz q := fun q hq => hq.elim (fun ⟨r, hr, e⟩ => Or.inl ⟨r, List.mem_append_left _ hr, e⟩) Or.inr
section XL
variable {p : Program} {l : Launch} {e : Env} {R : Room} {s : State} {m : MethodId} {args : Array Value} {below : List Frame} {meth : Method} {c : Code} {cells slots : Nat} {Q : State → Prop}
variable {cc : ByteArray} {nL : Nat} {own : String} {D : va_G} {g : xG} {tb : List xQ} {pc : Nat} {lv : List (Nat × Value)} {st : List Value} {M : xM}
theorem r_sld (C0 : CC p s m args c cc nL own D g tb) {b L : Nat} {xs : Nat → Int32} (hX : va_X b L xs s s.heap) (hbl : b < s.heap.size) (hbA : ¬ x_A g tb s.heap.size b) {i : Int32} (hin : vp_in i L) (hd : decode cc pc = .ok (.iaload, 1)) (k : WW p l e R s m args below meth c cells slots Q nL D g tb (pc + 1) lv (.int (xs i.toNatClampNeg) :: st) M) : WW p l e R s m args below meth c cells slots Q nL D g tb pc lv (.int i :: .ref b :: st) M :=
  fun H locs ls h1 h2 h3 => va_sld C0.1 C0.2.1 hX hbl hbA h2 hin hd (k H locs ls h1 h2 h3)
theorem r_sclen (C0 : CC p s m args c cc nL own D g tb) {b L : Nat} {xs : Nat → Int32} (hX : va_X b L xs s s.heap) (hbl : b < s.heap.size) (hbA : ¬ x_A g tb s.heap.size b) (hd : decode cc pc = .ok (.arraylength, 1)) (k : WW p l e R s m args below meth c cells slots Q nL D g tb (pc + 1) lv (.int (nI L) :: st) M) : WW p l e R s m args below meth c cells slots Q nL D g tb pc lv (.ref b :: st) M :=
  fun H locs ls h1 h2 h3 => va_slen C0.1 C0.2.1 hX hbl hbA h2 hd (k H locs ls h1 h2 h3)
theorem r_arg (C0 : CC p s m args c cc nL own D g tb) {b L : Nat} {xs : Nat → Int32} (hX : va_X b L xs s s.heap) (hbl : b < s.heap.size) (hbA : ¬ x_A g tb s.heap.size b) {i j : Nat} (hij : i + j < L) (hL : L ≤ 3072) (j0 j4 : Nat) (h0 : lv[j0]? = some (0, .ref b)) (h4 : lv[j4]? = some (4, .int (nI i))) {n : Int} (hn : Int32.ofInt n = nI j)
    (d0 : decode cc pc = .ok (.aload_n 0, 1)) (d1 : decode cc (pc + 1) = .ok (.iload 4, 2)) (d2 : decode cc (pc + 3) = .ok (.iconst n, 1)) (d3 : decode cc (pc + 4) = .ok (.iadd, 1)) (d4 : decode cc (pc + 5) = .ok (.iaload, 1))
    (k : WW p l e R s m args below meth c cells slots Q nL D g tb (pc + 6) lv (.int (xs (i + j)) :: st) M) : WW p l e R s m args below meth c cells slots Q nL D g tb pc lv st M := by
  refine r_aload_n C0 (kk := 0) j0 h0 d0 ?_
  refine r_iload C0 j4 h4 d1 ?_
  refine r_iconst C0 d2 hn ?_
  refine r_iadd C0 d3 ?_
  rw [nI_add]
  refine r_sld C0 hX hbl hbA (vp_in_nI hij (by omega)) d4 ?_
  rw [nI_clamp (show i + j < 2 ^ 31 by omega)]
  exact k
theorem r_lcmp (C0 : CC p s m args c cc nL own D g tb) {x y : Int64} (hd : decode cc pc = .ok (.lcmp, 1)) (k : WW p l e R s m args below meth c cells slots Q nL D g tb (pc + 1) lv (.int (lg_cmp x y) :: st) M) : WW p l e R s m args below meth c cells slots Q nL D g tb pc lv (.long y :: .long x :: st) M :=
  fun H locs ls h1 h2 h3 => W.lcmp C0.1 C0.2.1 hd (k H locs ls h1 h2 h3)
theorem r_ddload (C0 : CC p s m args c cc nL own D g tb) {i : Nat} {x : UInt64} (j : Nat) (hj : lv[j]? = some (i, .double x)) (hd : decode cc pc = .ok (.dload i, 2)) (k : WW p l e R s m args below meth c cells slots Q nL D g tb (pc + 2) lv (.double x :: st) M) : WW p l e R s m args below meth c cells slots Q nL D g tb pc lv st M :=
  fun H locs ls h1 h2 h3 => lv_dload C0.1 C0.2.1 hd (lv_at h3 j hj) (k H locs ls h1 h2 h3)
theorem r_ddstore (C0 : CC p s m args c cc nL own D g tb) {i : Nat} {x : UInt64} {lv2 : List (Nat × Value)} (hn : i + 1 < nL) (hl : (i, Value.double x) :: lv.filter (fun q => !(q.1 == i) && (!(q.1 == i + 1) && !(q.1 + 1 == i && q.2.category == 2))) = lv2) (hd : decode cc pc = .ok (.dstore i, 2)) (k : WW p l e R s m args below meth c cells slots Q nL D g tb (pc + 2) lv2 st M) : WW p l e R s m args below meth c cells slots Q nL D g tb pc lv (.double x :: st) M :=
  fun H locs ls h1 h2 h3 => lv_dstore C0.1 C0.2.1 hd h3 hn hl (fun ls2 h4 => k H locs ls2 h1 h2 h4)
theorem r_dcmp (C0 : CC p s m args c cc nL own D g tb) {x y : UInt64} {op : CmpOp} (hd : decode cc pc = .ok (.dcmp op, 1)) (k : WW p l e R s m args below meth c cells slots Q nL D g tb (pc + 1) lv (.int (Op.cmpValue (FP.dcmp x y) op) :: st) M) : WW p l e R s m args below meth c cells slots Q nL D g tb pc lv (.double y :: .double x :: st) M :=
  fun H locs ls h1 h2 h3 => lv_dcmp C0.1 C0.2.1 hd (k H locs ls h1 h2 h3)
theorem r_f2d (C0 : CC p s m args c cc nL own D g tb) {x : UInt32} (hne : vf_n64 (FP.f2d x)) (hd : decode cc pc = .ok (.f2d, 1)) (k : WW p l e R s m args below meth c cells slots Q nL D g tb (pc + 1) lv (.double (FP.f2d x) :: st) M) : WW p l e R s m args below meth c cells slots Q nL D g tb pc lv (.float x :: st) M :=
  fun H locs ls h1 h2 h3 => lv_f2d C0.1 C0.2.1 hd hne (k H locs ls h1 h2 h3)
/-- one of the law's own methods is called -/
theorem r_callSH (C0 : CC p s m args c cc nL own D g tb) {y : MethodName} {bytes : ByteArray} {maxL idx n mc : Nat} {hh : List (Nat × Nat × Nat × Nat)} {rm : Room} {As rest stk : List Value} {r : Int32} {M' : xM}
    (hM : cL l D g tb y bytes maxL hh rm mc As M r M') (w1 : Cond.methodLink own idx y ∈ xA) (w2 : Cond.static y ∈ xA) (w4 : Cond.initialized y.cls ∈ xA) (w5 : Cond.codeWith y bytes maxL (some .int) hh ∈ xA)
    (hdd : y.cls ≠ "java/lang/invoke/MethodHandle" ∧ y.cls ≠ "java/lang/invoke/VarHandle" ∧ (parseMethodDescriptor y.desc).map (fun d => d.parameters.length) = some n) (hn : As.length = n) (hrm : rm.cells = mc ∧ rm.slots = 6 * mc) (hR : rm.frames + 1 ≤ R.frames ∧ 8 + (maxL + 11) + rm.locals ≤ R.locals) (hfc : cells + mc ≤ R.cells) (hfs : slots + 6 * mc ≤ R.slots)
    (hst : stk = As.reverse ++ rest) (hcat : (rest.map fun v => v.category).sum ≤ 8) (hd : decode cc pc = .ok (.invokestatic idx, 3)) (k : WW p l e R s m args below meth c (cells + mc) (slots + 6 * mc) Q nL D g tb (pc + 3) lv (.int r :: rest) M') : WW p l e R s m args below meth c cells slots Q nL D g tb pc lv stk M := by
  intro H locs ls h1 h2 h3
  subst hst
  obtain ⟨hx, hb, hml, hown, hts, hK, hT, hKS⟩ := C0
  obtain ⟨hrc, hrs⟩ := hrm
  have hG : GoodIn xA (va_wsS own idx y (wsH y bytes maxL hh)) := by
    intro w hw
    have hm : w ∈ xA := by
      rcases List.mem_append.mp hw with h | h
      · simp only [List.mem_cons, List.not_mem_nil, or_false] at h
        rcases h with rfl | rfl | rfl <;> assumption
      · rcases List.mem_cons.mp h with rfl | h
        · exact w5
        · exact h
    exact ⟨hm, good_of_word (xA_good hm)⟩
  refine va_calli (vx_runSW (As := As) (rest := rest) (hh := hh) (bytes := bytes) (maxL := maxL) (ret := some .int) ⟨hx, hb, hml, hown, hts⟩ (hM H.size) (vx_cwSW n hts hG rfl hrc hrs hdd hR) ⟨x_blind, fun U hU hW => ⟨rfl, by rw [hU], by rw [hU]; exact h1, va_K.moved hW.alike hK, x_KS.kept hKS h2 hU hW⟩⟩ rfl hn h3.1 rfl (lv_room hcat) hd ⟨hfc, hfs⟩) h2 (fun q _ hq => x_Aup h2.1 q hq) (fun q hq => x_Aup h2.1 q hq) ?_
  rintro r' u t H1 locs1 ht hvm rfl hB hz1 hk1 hS1
  exact k H1 locs1 ls (ht ▸ hB.1) hS1 h3
/-- the model is called beside the law's own cell -/
theorem r_fcall (C0 : CC p s m args c cc nL own D g tbA) {y : MethodName} {bytes : ByteArray} {maxL idx n : Nat} {rm : Room} {As rest stk : List Value} {C : String} {a : Nat} {r : Int32} {M1 M1' : xM}
    (hM : cI l D g (tbX ++ tbM) y bytes maxL .int rm (.ref a :: As) M1 r M1') (hq : ∀ z, z ≠ 5000 → M z = M1 z) (w1 : Cond.methodLink own idx y ∈ xA) (w2 : Cond.instanceMethod y ∈ xA) (w3 : Cond.selects C y y ∈ xA) (w4 : Cond.initialized C ∈ xA) (w5 : Cond.code y bytes maxL (some .int) ∈ xA)
    (hrec : ∀ (M : xM) (H : Heap) (locs : List Loc), x_H D g tbA M H → va_S (x_A g tbA s.heap.size) s.heap H locs → ∃ cell : Cell, H[a]? = some cell ∧ cell.vm.isStatics = false ∧ s.vm.findClass C = some cell.cls) (hdd : y.cls = C ∧ y.cls ≠ "java/lang/invoke/MethodHandle" ∧ y.cls ≠ "java/lang/invoke/VarHandle" ∧ (parseMethodDescriptor y.desc).map (fun d => d.parameters.length) = some n) (hn : As.length = n) (hrm : rm.cells = 0 ∧ rm.slots = 0) (hR : rm.frames + 1 ≤ R.frames ∧ 8 + (maxL + 11) + rm.locals ≤ R.locals) (hfc : cells + 0 ≤ R.cells) (hfs : slots + 0 ≤ R.slots)
    (hst : stk = As.reverse ++ .ref a :: rest) (hcat : (rest.map fun v => v.category).sum ≤ 8) (hd : decode cc pc = .ok (.invokevirtual idx, 3)) (k : WW p l e R s m args below meth c cells slots Q nL D g tbA (pc + 3) lv (.int r :: rest) (upd M1' 5000 (M 5000))) : WW p l e R s m args below meth c cells slots Q nL D g tbA pc lv stk M := by
  intro H locs ls h1 h2 h3
  subst hst
  have C1 := C0
  obtain ⟨hx, hb, hml, hown, hts, hK, hT, hKS⟩ := C0
  obtain ⟨hrc, hrs⟩ := hrm
  obtain ⟨p1, p2⟩ := H_app.mp h1
  have p1' : x_H D g (tbX ++ tbM) M1 H := H_cong (fun q hq2 z hz => (hq z (by have := lt_XM q hq2; have := hz.2; omega)).symm) p1
  have hup : ∀ q, x_A g (tbX ++ tbM) H.size q → x_A g tbA s.heap.size q := fun q hq => x_Aup h2.1 q (x_A_XM q hq)
  refine va_calli (va_runV (As := As) (rest := rest) ⟨hx, hb, hml, hown, hts⟩ (hM H.size) (cwV n hts (x_goodV w1 w2 w3 w4 w5) rfl hrc hrs hdd hR) ⟨x_blind, hrec M H _ h1 h2, fun U hU hW => ⟨rfl, by rw [hU], by rw [hU]; exact p1', va_K.moved hW.alike hK, x_KS2.to (A := x_A g tbA s.heap.size) hKS h2 (fun q hq => hup q (by rw [hU] at hq; exact hq)) hU hW⟩⟩ rfl hn h3.1 rfl (lv_room hcat) hd ⟨hfc, hfs⟩) h2 (fun q _ hq => hup q hq) (fun q hq => hup q hq) ?_
  rintro r' u t H1 locs1 ht hvm rfl hB hz1 hk1 hS1
  have q1 : x_H D g (tbX ++ tbM) M1' H1 := ht ▸ hB.1
  have hne : g.1 9 5000 < H.size ∧ ¬ x_A g (tbX ++ tbM) H.size (g.1 9 5000) := by
    have hl : g.1 9 5000 < H.size := (p2 0 (g.1 9 5000, x_cell g M (9, 5000, 1)) rfl).lt
    refine ⟨hl, fun h => ?_⟩
    rcases h with ⟨r, hr, e⟩ | h
    · obtain ⟨i, hi⟩ := List.getElem?_of_mem hr
      have li := (List.getElem?_eq_some_iff.mp hi).1
      have e1 : tbA[i]? = some r := by unfold tbA; rw [List.getElem?_append_left li]; exact hi
      have e2 : tbA[(tbX ++ tbM).length]? = some (9, 5000, 1) := by unfold tbA; rw [List.getElem?_append_right (Nat.le_refl _), Nat.sub_self]; rfl
      have := hT.1 _ _ _ _ e1 e2 e.symm
      omega
    · omega
  have q2 : x_H D g tbO M H1 := by
    refine P_iff.mpr (fun z hz => ?_)
    have hz1 := P_iff.mp p2 z hz
    have ez : z = (g.1 9 5000, x_cell g M (9, 5000, 1)) := by
      have : z ∈ [(g.1 9 5000, x_cell g M (9, 5000, 1))] := hz
      exact List.mem_singleton.mp this
    subst ez
    exact hz1.kept (hk1 _ hne.1 hne.2)
  refine k H1 locs1 ls (H_app.mpr ⟨H_cong (fun q hq2 z hz => un (by have := lt_XM q hq2; have := hz.2; omega)) q1, H_cong (fun q hq2 z hz => ?_) q2⟩) hS1 h3
  have eq : q = (9, 5000, 1) := List.mem_singleton.mp hq2
  subst eq
  have : z = 5000 := by
    have h1 : 5000 ≤ z := hz.1
    have h2 : z < 5000 + 1 := hz.2
    omega
  subst this
  exact us
end XL
theorem lg_cmp_self {x : Int64} : lg_cmp x x = 0 := by
  unfold lg_cmp
  rw [if_neg (by exact Int64.lt_irrefl), if_pos rfl]
