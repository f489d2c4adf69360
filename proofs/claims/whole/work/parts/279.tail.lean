/-! what the law does behind a call: the case's end -/
abbrev lvL (b : Nat) (g : xG) (i : Nat) : List (Nat × Value) := [(0, .ref b), (1, .ref (g.1 4 1664)), (2, .ref (g.1 5 2500)), (3, .ref (g.1 9 5000)), (4, .int (nI i))]
/-- what holds all through the law's walk -/
def LC (p : Program) (s : State) (m : MethodId) (c : Code) (b L : Nat) (xs : Nat → Int32) (D : va_G) (g : xG) : Prop :=
  CC p s m #[.ref b] c cL_law 9 RL D g tbA ∧ va_X b L xs s s.heap ∧ b < s.heap.size ∧ ¬ x_A g tbA s.heap.size b ∧ L ≤ 3072
theorem okT_use {mm : Nat} {lst : List Nat} {fc : xM → Option (Nat × Int32 × xM)} {fm : xM → Option (Int32 × xM)} {M : xM} (h : OkT mm lst fc fm M) (hl : lst.length ≤ 4) : ∃ k r M1 bv M2 res Mo, fc M = some (k, r, M1) ∧ fm M1 = some (bv, M2) ∧ RR mm M2 ∧
    ((k = 0 ∧ res = 0 ∧ Mo = upd M1 5000 r) ∨ ∃ i : Nat, lst[i]? = some k ∧ 0 < k ∧ res = nI (i + 1) ∧ Mo = M1) ∧ (∀ z, z ≠ 5000 → Mo z = M1 z) ∧ ((res = 0 ∧ M2 2504 = 0 ∧ Mo 5000 = bv) ∨ ∃ n, n < 5 ∧ M2 2504 = nI (n + 1) ∧ res = nI (n + 1)) := by
  obtain ⟨k, r, M1, bv, M2, e1, e2, hR, ⟨hk, hr, ht⟩ | ⟨i, hi, hk, ht⟩⟩ := h
  · exact ⟨k, r, M1, bv, M2, 0, upd M1 5000 r, e1, e2, hR, Or.inl ⟨hk, rfl, rfl⟩, fun z hz => un hz, Or.inl ⟨rfl, ht, us.trans hr⟩⟩
  · have := (List.getElem?_eq_some_iff.mp hi).1
    exact ⟨k, r, M1, bv, M2, nI (i + 1), M1, e1, e2, hR, Or.inr ⟨i, hi, hk, rfl, rfl⟩, fun z _ => rfl, Or.inr ⟨i, by omega, ht, rfl⟩⟩
theorem RR_o {mm : Nat} {M : xM} {x : Int32} (h : RR mm M) : RR mm (upd M 5000 x) := RR_cong h (fun z hz => un (by unfold rz at hz; omega))
section XTL
variable {p : Program} {l : Launch} {e : Env} {s : State} {m : MethodId} {below : List Frame} {meth : Method} {c : Code} {cells slots : Nat} {Q : State → Prop} {b L i : Nat} {xs : Nat → Int32} {D : va_G} {g : xG} {pc : Nat} {M : xM}
set_option maxRecDepth 100000 in
set_option maxHeartbeats 4000000 in
theorem r_tail (h : LC p s m c b L xs D g) {res bv : Int32} {M2 : xM} {x : Int32} (hcase : (res = 0 ∧ M2 2504 = 0 ∧ x = bv) ∨ ∃ n, n < 5 ∧ M2 2504 = nI (n + 1) ∧ res = nI (n + 1)) (hc : cells ≤ 601024) (hs : slots ≤ 7293034)
    (d0 : decode cL_law pc = .ok (.istore 6, 2)) (d2 : decode cL_law (pc + 2) = .ok (.aload_n 2, 1)) (d3 : decode cL_law (pc + 3) = .ok (.invokevirtual 186, 3)) (d6 : decode cL_law (pc + 6) = .ok (.iload 5, 2)) (d8 : decode cL_law (pc + 8) = .ok (.if_icmp .eq 5, 3)) (d13 : decode cL_law (pc + 13) = .ok (.iload 5, 2)) (d15 : decode cL_law (pc + 15) = .ok (.ifCond .ne 15, 3)) (d18 : decode cL_law (pc + 18) = .ok (.aload_n 3, 1)) (d19 : decode cL_law (pc + 19) = .ok (.iconst 0, 1)) (d20 : decode cL_law (pc + 20) = .ok (.laload, 1)) (d21 : decode cL_law (pc + 21) = .ok (.iload 6, 2)) (d23 : decode cL_law (pc + 23) = .ok (.i2l, 1)) (d24 : decode cL_law (pc + 24) = .ok (.lcmp, 1)) (d25 : decode cL_law (pc + 25) = .ok (.ifCond .eq 5, 3)) {off : Int} (d30 : decode cL_law (pc + 30) = .ok (.goto off, 3)) (ht : ((pc + 30 : Nat) : Int) + off = ((3076 : Nat) : Int))
    (kk : WW p l e room_1 s m #[.ref b] below meth c cells slots Q 9 D g tbA 3076 (lvL b g i) [] (upd M2 5000 x)) :
    WW p l e room_1 s m #[.ref b] below meth c cells slots Q 9 D g tbA pc ((5, .int res) :: lvL b g i) [.int bv] (upd M2 5000 x) := by
  have C0 := h.1
  have hT := C0.2.2.2.2.2.2.1
  have e4 : upd M2 5000 x 2504 = res := by
    rw [un (by decide)]
    rcases hcase with ⟨a, b, -⟩ | ⟨n, -, a, b⟩
    · rw [a, b]
    · rw [a, b]
  have G : WW p l e room_1 s m #[.ref b] below meth c cells slots Q 9 D g tbA (pc + 30) ([(6, .int bv), (5, .int res)] ++ lvL b g i) [] (upd M2 5000 x) := by
    refine r_goto C0 (tgt := 3076) ht d30 ?_
    exact WW.sub [2, 3, 4, 5, 6] rfl kk
  refine r_istore C0 (lv2 := [(6, .int bv), (5, .int res)] ++ lvL b g i) (by decide) rfl d0 ?_
  refine r_aload_n C0 (kk := 2) 4 rfl d2 ?_
  refine r_callVi C0 (As := []) (rest := []) (c_X7_thrown l D g tbA hT mdA (M := upd M2 5000 x) rfl) w7_37 w7_38 w7_39 w1_14 w7_40 (x_rec5 C0 mdA.1) hd_X7_thrown rfl ⟨rfl, rfl⟩ ⟨Nat.le_of_ble_eq_true rfl, Nat.le_of_ble_eq_true rfl⟩ (show cells + 0 ≤ 601024 from hc) (show slots + 0 ≤ 7293034 from hs) rfl (Nat.le_of_ble_eq_true rfl) d3 ?_
  refine r_iload C0 1 rfl d6 ?_
  refine r_icmp_eq C0 (tgt := pc + 13) (by omega) d8 (fun q => ?_) (fun q => absurd e4 q)
  refine r_iload C0 1 rfl d13 ?_
  refine r_if_ne C0 (tgt := pc + 30) (by omega) d15 (fun q => G) (fun q => ?_)
  have hx : x = bv := by
    rcases hcase with ⟨-, -, a⟩ | ⟨n, hn, -, a⟩
    · exact a
    · exact absurd (a.symm.trans q) (nI_ne0 (by omega) (by omega))
  refine r_aload_n C0 (kk := 3) 5 rfl d18 ?_
  refine r_iconst C0 (v := 0) d19 rfl ?_
  refine r_lald C0 oA (inb_in (i := 0) (n := 1) (by decide)) d20 ?_
  refine r_iload C0 0 rfl d21 ?_
  refine r_i2l C0 d23 ?_
  refine r_lcmp C0 d24 ?_
  have e5 : (upd M2 5000 x (5000 + (0 : Int32).toNatClampNeg)).toInt64 = bv.toInt64 := by
    rw [show 5000 + (0 : Int32).toNatClampNeg = 5000 from rfl, us, hx]
  rw [e5, lg_cmp_self]
  exact r_if_eq C0 (tgt := pc + 30) (by omega) d25 (fun q => G) (fun q => absurd rfl q)
end XTL
