/-! copies of markets -/
def cpn (a b : Nat) (M : xM) : Nat → xM
  | 0 => M
  | n + 1 => upd (cpn a b M n) (a + n) (cpn a b M n (b + n))
theorem cpn_spec {a b : Nat} {M : xM} : ∀ n, (a + n ≤ b ∨ b + n ≤ a) → (∀ k, k < n → cpn a b M n (a + k) = M (b + k)) ∧ ∀ z, (z < a ∨ a + n ≤ z) → cpn a b M n z = M z
  | 0, _ => ⟨fun k hk => absurd hk (Nat.not_lt_zero k), fun _ _ => rfl⟩
  | n + 1, h => by
    obtain ⟨h1, h2⟩ := cpn_spec (a := a) (b := b) (M := M) n (by omega)
    refine ⟨fun k hk => ?_, fun z hz => ?_⟩
    · show upd (cpn a b M n) (a + n) (cpn a b M n (b + n)) (a + k) = M (b + k)
      by_cases e : k = n
      · subst e; rw [us]; exact h2 _ (by omega)
      · rw [un (by omega)]; exact h1 k (by omega)
    · show upd (cpn a b M n) (a + n) (cpn a b M n (b + n)) z = M z
      rw [un (by omega)]; exact h2 z (by omega)
theorem f4copy (a b : Nat) (M : xM) : f_X4_copyFrom a b M = some (cpn a b M 9) := rfl
theorem f1copy (a b : Nat) (M : xM) : f_X1_copyFrom a b M = some (cpn a b M 8) := rfl
/-- the cells L of the window at a are those of the window at b; nothing else has changed -/
def Cp (a b : Nat) (L : Nat → Prop) (M M' : xM) : Prop := (∀ z, (∀ k, L k → z ≠ a + k) → M' z = M z) ∧ ∀ k, L k → M' (a + k) = M (b + k)
def apartW (a b : Nat) : Prop := a + 125 ≤ b ∨ b + 125 ≤ a
theorem Cp.trans {a b : Nat} {L1 L2 : Nat → Prop} {M M1 M2 : xM} (hd : apartW a b) (l1 : ∀ k, L1 k → k < 125) (l2 : ∀ k, L2 k → k < 125) (h1 : Cp a b L1 M M1) (h2 : Cp a b L2 M1 M2) : Cp a b (fun k => L1 k ∨ L2 k) M M2 := by
  have hs : ∀ k, k < 125 → M1 (b + k) = M (b + k) := fun k hk => h1.1 _ (fun j hj e => by
    have := l1 j hj
    unfold apartW at hd
    omega)
  refine ⟨fun z hz => ?_, fun k hk => ?_⟩
  · rw [h2.1 z (fun k hk => hz k (Or.inr hk)), h1.1 z (fun k hk => hz k (Or.inl hk))]
  · by_cases q : L2 k
    · rw [h2.2 k q, hs k (l2 k q)]
    · rcases hk with hk | hk
      · rw [h2.1 (a + k) (fun j hj e => by
          have : k = j := by omega
          subst this
          exact q hj), h1.2 k hk]
      · exact absurd hk q
theorem Cp.mono {a b : Nat} {L1 L2 : Nat → Prop} {M M1 : xM} (e : ∀ k, L1 k ↔ L2 k) (h : Cp a b L1 M M1) : Cp a b L2 M M1 :=
  ⟨fun z hz => h.1 z (fun k hk => hz k ((e k).mp hk)), fun k hk => h.2 k ((e k).mpr hk)⟩
theorem Cp.one {a b : Nat} {M : xM} (k : Nat) : Cp a b (fun j => j = k) M (upd M (a + k) (M (b + k))) :=
  ⟨fun z hz => un (hz k rfl), fun j hj => by subst hj; exact us⟩
theorem Cp.cpn {a b o n : Nat} {M : xM} (hd : apartW a b) (hn : o + n ≤ 125) {a' b' : Nat} (ha : a' = a + o) (hb : b' = b + o) : Cp a b (fun k => o ≤ k ∧ k < o + n) M (cpn a' b' M n) := by
  subst ha; subst hb
  unfold apartW at hd
  obtain ⟨h1, h2⟩ := cpn_spec (a := a + o) (b := b + o) (M := M) n (by omega)
  refine ⟨fun z hz => h2 z ?_, fun k hk => ?_⟩
  · rcases Nat.lt_or_ge z (a + o) with q | q
    · exact Or.inl q
    · rcases Nat.lt_or_ge z (a + o + n) with q2 | q2
      · exact absurd (show z = a + (z - a) by omega) (hz (z - a) (by omega))
      · exact Or.inr q2
  · have := h1 (k - o) (by omega)
    rw [show a + o + (k - o) = a + k by omega, show b + o + (k - o) = b + k by omega] at this
    exact this
/-- the head's copies, one behind another -/
def cpl (a b : Nat) (M : xM) (l : List Nat) : xM := l.foldl (fun m k => upd m (a + k) (m (b + k))) M
theorem cpl_Cp {a b : Nat} (hd : apartW a b) : ∀ (l : List Nat) (M : xM), (∀ k ∈ l, k < 125) → Cp a b (fun k => k ∈ l) M (cpl a b M l)
  | [], M, _ => ⟨fun _ _ => rfl, fun k hk => absurd hk List.not_mem_nil⟩
  | x :: l, M, hl => by
    have h1 := cpl_Cp hd l (upd M (a + x) (M (b + x))) (fun k hk => hl k (List.mem_cons_of_mem _ hk))
    have h2 := Cp.trans hd (fun k hk => by rw [show k = x from hk]; exact hl x List.mem_cons_self) (fun k hk => hl k (List.mem_cons_of_mem _ hk)) (Cp.one (a := a) (b := b) (M := M) x) h1
    exact Cp.mono (fun k => by rw [List.mem_cons]) h2
theorem copy_head (a b : Nat) (k : Int32 → xM → Option xM) (i : Int32) (M : xM) (h : M (a + 8) ≤ i) : fb_X2_copyFrom_c88 k a b i M = gd (isb (cpl a b M [0, 7, 5, 6] (b + 1))) (gd (isb (cpl a b M [0, 7, 5, 6, 1] (b + 2))) (some (cpl a b M [0, 7, 5, 6, 1, 2, 3, 4]))) := by
  unfold fb_X2_copyFrom_c88
  rw [if_pos h]
  rfl
section
variable {mm ns nb nf a b : Nat} {M0 : xM}
theorem isb_of {x : Int32} (h : x = 0 ∨ x = 1) : isb x = true := by
  rcases h with rfl | rfl <;> rfl
theorem cp_fog (hd : apartW a b) (h : MV mm ns nb nf (win b M0)) : ∀ (k i n : Nat) (M : xM), i + k = nf → k < n → Cp a b (fun z => (z = 9 ∨ z = 10 ∨ z = 8) ∨ (23 ≤ z ∧ z < 23 + 9 * ns) ∨ (77 ≤ z ∧ z < 77 + 8 * nb) ∨ (11 ≤ z ∧ z < 11 + i)) M0 M →
    ∃ M', lp (fun _ _ => none) (fun k => fb_X2_copyFrom_c88 k a b) n (nI i) M = some M' ∧ Cp a b (Lv ns nb nf) M0 M'
  | 0, i, n + 1, M, hi, hn, hc => by
    have hf := h.f
    have hs := h.s.2
    have hb := h.b.2
    have e8 : M (a + 8) = nI nf := by rw [hc.2 8 (by omega)]; exact hf.1
    have hk : ∀ z, z < 125 → M (b + z) = M0 (b + z) := fun z hz => hc.1 _ (fun k hk e => by unfold apartW at hd; omega)
    rw [lp_s, copy_head _ _ _ _ _ (by rw [e8]; exact nI_le (by omega) (by omega))]
    have c4 := cpl_Cp hd [0, 7, 5, 6] M (by decide)
    have c5 := cpl_Cp hd [0, 7, 5, 6, 1] M (by decide)
    have c8 := cpl_Cp hd [0, 7, 5, 6, 1, 2, 3, 4] M (by decide)
    have r4 : cpl a b M [0, 7, 5, 6] (b + 1) = M0 (b + 1) := by
      rw [c4.1 _ (fun k hk e => by
        have : k < 125 := (by decide : ∀ k ∈ [0, 7, 5, 6], k < 125) k hk
        unfold apartW at hd
        omega), hk 1 (by omega)]
    have r5 : cpl a b M [0, 7, 5, 6, 1] (b + 2) = M0 (b + 2) := by
      rw [c5.1 _ (fun k hk e => by
        have : k < 125 := (by decide : ∀ k ∈ [0, 7, 5, 6, 1], k < 125) k hk
        unfold apartW at hd
        omega), hk 2 (by omega)]
    rw [r4, r5, gd_t (show isb (M0 (b + 1)) = true from isb_of h.o), gd_t (show isb (M0 (b + 2)) = true from isb_of h.r)]
    refine ⟨_, rfl, Cp.mono (fun z => ?_) (Cp.trans hd (fun k hk => by omega) (fun k hk => (by decide : ∀ k ∈ [0, 7, 5, 6, 1, 2, 3, 4], k < 125) k hk) hc c8)⟩
    unfold Lv
    simp only [List.mem_cons, List.not_mem_nil, or_false]
    omega
  | k + 1, i, n + 1, M, hi, hn, hc => by
    have hf := h.f
    have hs := h.s.2
    have hb := h.b.2
    have e8 : M (a + 8) = nI nf := by rw [hc.2 8 (by omega)]; exact hf.1
    rw [lp_s]
    have ih := cp_fog hd h k (i + 1) n (upd M (a + (11 + i)) (M (b + (11 + i)))) (by omega) (by omega) (Cp.mono (fun z => by omega) (Cp.trans hd (fun k hk => by omega) (fun k hk => by omega) hc (Cp.one (11 + i))))
    generalize lp (fun _ _ => none) (fun k => fb_X2_copyFrom_c88 k a b) n = K at ih ⊢
    unfold fb_X2_copyFrom_c88
    rw [if_neg (by rw [e8]; exact nI_ge (by omega) (by omega)), gd_t (inb_nI (by omega) (by omega)), gd_t (inb_nI (by omega) (by omega)), cl (by omega), nI_1, Nat.add_assoc a, Nat.add_assoc b]
    exact ih
theorem cp_buy (hd : apartW a b) (h : MV mm ns nb nf (win b M0)) : ∀ (k i n : Nat) (M : xM), i + k = nb → k < n → Cp a b (fun z => (z = 9 ∨ z = 10) ∨ (23 ≤ z ∧ z < 23 + 9 * ns) ∨ (77 ≤ z ∧ z < 77 + 8 * i)) M0 M →
    ∃ M', lp (fun _ _ => none) (fun k => fb_X2_copyFrom_c49 k a b) n (nI i) M = some M' ∧ Cp a b (Lv ns nb nf) M0 M'
  | 0, i, n + 1, M, hi, hn, hc => by
    have hf := h.f.2
    have hs := h.s.2
    have hb := h.b
    have e10 : M (a + 10) = nI nb := by rw [hc.2 10 (by omega)]; exact hb.1
    rw [lp_s]
    unfold fb_X2_copyFrom_c49
    rw [if_pos (by rw [e10]; exact nI_le (by omega) (by omega))]
    unfold f_X2_copyFrom_c88
    exact cp_fog hd h nf 0 FU _ (by omega) (FU_e _ (by omega)) (Cp.mono (fun z => by omega) (Cp.trans hd (fun k hk => by omega) (fun k hk => by omega) hc (Cp.one 8)))
  | k + 1, i, n + 1, M, hi, hn, hc => by
    have hs := h.s.2
    have hb := h.b
    have e10 : M (a + 10) = nI nb := by rw [hc.2 10 (by omega)]; exact hb.1
    rw [lp_s]
    have ih := cp_buy hd h k (i + 1) n (cpn (a + 77 + 8 * i) (b + 77 + 8 * i) M 8) (by omega) (by omega) (Cp.mono (fun z => by omega) (Cp.trans hd (fun k hk => by omega) (fun k hk => by omega) hc (Cp.cpn (o := 77 + 8 * i) (n := 8) hd (by omega) (by omega) (by omega))))
    generalize lp (fun _ _ => none) (fun k => fb_X2_copyFrom_c49 k a b) n = K at ih ⊢
    unfold fb_X2_copyFrom_c49
    rw [if_neg (by rw [e10]; exact nI_ge (by omega) (by omega)), gd_t (inb_nI (by omega) (by omega)), gd_t (inb_nI (by omega) (by omega)), cl (by omega), nI_1, f1copy]
    exact ih
theorem cp_sta (hd : apartW a b) (h : MV mm ns nb nf (win b M0)) : ∀ (k i n : Nat) (M : xM), i + k = ns → k < n → Cp a b (fun z => z = 9 ∨ (23 ≤ z ∧ z < 23 + 9 * i)) M0 M →
    ∃ M', lp (fun _ _ => none) (fun k => fb_X2_copyFrom_c10 k a b) n (nI i) M = some M' ∧ Cp a b (Lv ns nb nf) M0 M'
  | 0, i, n + 1, M, hi, hn, hc => by
    have hs := h.s
    have hb := h.b.2
    have e9 : M (a + 9) = nI ns := by rw [hc.2 9 (by omega)]; exact hs.1
    rw [lp_s]
    unfold fb_X2_copyFrom_c10
    rw [if_pos (by rw [e9]; exact nI_le (by omega) (by omega))]
    unfold f_X2_copyFrom_c49
    exact cp_buy hd h nb 0 FU _ (by omega) (FU_e _ (by omega)) (Cp.mono (fun z => by omega) (Cp.trans hd (fun k hk => by omega) (fun k hk => by omega) hc (Cp.one 10)))
  | k + 1, i, n + 1, M, hi, hn, hc => by
    have hs := h.s
    have e9 : M (a + 9) = nI ns := by rw [hc.2 9 (by omega)]; exact hs.1
    rw [lp_s]
    have ih := cp_sta hd h k (i + 1) n (cpn (a + 23 + 9 * i) (b + 23 + 9 * i) M 9) (by omega) (by omega) (Cp.mono (fun z => by omega) (Cp.trans hd (fun k hk => by omega) (fun k hk => by omega) hc (Cp.cpn (o := 23 + 9 * i) (n := 9) hd (by omega) (by omega) (by omega))))
    generalize lp (fun _ _ => none) (fun k => fb_X2_copyFrom_c10 k a b) n = K at ih ⊢
    unfold fb_X2_copyFrom_c10
    rw [if_neg (by rw [e9]; exact nI_ge (by omega) (by omega)), gd_t (inb_nI (by omega) (by omega)), gd_t (inb_nI (by omega) (by omega)), cl (by omega), nI_1, f4copy]
    exact ih
/-- the class's copy: the window at a becomes one alike to that at b -/
theorem c_copy (hd : apartW a b) (h : MV mm ns nb nf (win b M0)) : ∃ u, f_X2_copyFrom a b M0 = some (wr a u M0) ∧ Sim ns nb nf (win b M0) u := by
  have hs := h.s.2
  have hb := h.b.2
  have hf := h.f.2
  obtain ⟨M', e, hc⟩ := cp_sta hd h ns 0 FU (upd M0 (a + 9) (M0 (b + 9))) (by omega) (FU_e _ (by omega)) (Cp.mono (fun z => by omega) (Cp.one (a := a) (b := b) (M := M0) 9))
  refine ⟨win a M', ?_, fun z hz => (hc.2 z hz).symm⟩
  have : M' = wr a (win a M') M0 := by
    funext z
    by_cases q : a ≤ z ∧ z < a + 125
    · rw [wr_in (z := z - a) (by omega) (by omega)]
      unfold win
      rw [show a + (z - a) = z by omega]
    · rw [wr_out (by omega)]
      exact hc.1 z (fun k hk e => by unfold Lv at hk; omega)
  rw [← this]
  exact e
end

