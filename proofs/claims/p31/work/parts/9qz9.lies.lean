section
/-! lies: the pair -/
theorem h_liess {p f t r1 r2 : Int} {M M1 M2 : EM} (J1 : r_J M1) (hB : h_B M 0 (r_G M)) (hC : h_C M 0 (r_G M)) (hf : f ≤ 2147483647) (ht : t ≤ 2147483647) (hfr : ∀ i, M1 193 i = M 193 i) (k1 : E_C 117 [8, p, f, t] M = some (r1, M1)) (k2 : E_C 219 [192, p, f, t] M1 = some (r2, M2)) : r1 = r2 ∧ h_C M2 0 (r_G M2) := by
  have eG1 : r_G M1 = r_G M := funext fun i => hfr _
  have hW1 := (r_J_E J1).2.1
  have h10 := hB.1
  by_cases c : 0 ≤ p ∧ p < M 10 0
  · have cg : 0 ≤ p ∧ p < r_G M1 1198 := by rw [eG1, ← h10]; exact c
    have i : E_C 149 [8, p] M = some (1, M) := h_149.trans (congrArg some (congrArg (·, M) (if_pos c)))
    have ip := r_ip1 hW1 cg
    by_cases hL : h_Lq f t
    · have h40 := r_40 hW1 cg
      obtain ⟨q, hq⟩ : ∃ q : Nat, p = q := ⟨p.toNat, by omega⟩
      subst hq
      have hqn : (q : Int) < r_G M 1198 := by rw [← h10]; exact c.2
      have b := hB.2.2 q hqn
      have cq := hC q hqn
      have kk : E_C 170 [192, (q : Int)] M1 = some (r_G M1 (28 * (q : Int)), M1) := r_kind h40
      rw [eG1] at kk
      have kq : M 11 (q : Int).toNat = r_G M (28 * (q : Int)) := b.1
      by_cases k0 : r_G M (28 * (q : Int)) = 0
      · have j : E_C 150 [8, (q : Int), 0] M = some (1, M) := (h_150 h40).trans (congrArg some (congrArg (·, M) (if_pos (kq.trans k0))))
        obtain ⟨e1, e2⟩ := Prod.mk.inj (Option.some.inj (k1.symm.trans (h_117c h40 i j hf ht hL)))
        obtain ⟨d1, d2, d4⟩ := cq k0
        rw [k0] at kk
        obtain ⟨f1, f2⟩ := Prod.mk.inj (Option.some.inj (k2.symm.trans (h_219c h40 ip kk hf ht hL)))
        refine ⟨e1.trans f1.symm, ?_⟩
        obtain ⟨g0, g1, g2, g3, g4, g5⟩ := r_lay5_G (M := M1) (p := (q : Int)) (a := f / 100) (b := f % 100) (c := t / 100) (d := t % 100) h40
        rw [← f2] at g0 g1 g2 g3 g4 g5
        rw [eG1] at g5
        have m1 : ∀ id k, id ≠ 193 → M2 id k = M1 id k := fun id k h1 => by
          rw [f2]
          unfold r_lay5
          rw [r_n193 h1, r_n193 h1, r_n193 h1, r_n193 h1, r_n193 h1]
        have m2 : ∀ id k, id ≠ 193 → ¬ (id = 23 ∧ k = q) → ¬ (id = 24 ∧ k = q) → M2 id k = M id k := fun id k h1 h2 h3 => by
          rw [m1 id k h1, e2, Int.toNat_natCast, c_up_n h3, c_up_n h2]
        have m23 : M2 23 q = f := by rw [m1 _ _ (by decide), e2, Int.toNat_natCast, c_up_n (by omega), c_up_s]
        have m24 : M2 24 q = t := by rw [m1 _ _ (by decide), e2, Int.toNat_natCast, c_up_s]
        have n0 : r_G M2 1198 = r_G M 1198 := g5 _ (by omega)
        intro z hz
        rw [n0] at hz
        by_cases ct : z = q
        · subst ct
          intro _
          refine ⟨fun a ha => ?_, ?_, Or.inr ⟨g0, ?_, ?_⟩⟩
          · rw [g5 _ (by omega), m2 _ _ (by decide) (by omega) (by omega)]
            exact d1 a ha
          · rw [g5 (28 * (z : Int) + 19) (by omega), m2 (22 + 0) _ (by decide) (by omega) (by omega)]
            exact d2
          · have e1' : r_G M2 (28 * (z : Int) + 21) = f / 100 := by rw [← g1]; exact congrArg (r_G M2) (by omega)
            have e2' : r_G M2 (28 * (z : Int) + 22) = f % 100 := by rw [← g2]; exact congrArg (r_G M2) (by omega)
            rw [e1', e2']
            show M2 23 z = _
            rw [m23]
            omega
          · have e1' : r_G M2 (28 * (z : Int) + 23) = t / 100 := by rw [← g3]; exact congrArg (r_G M2) (by omega)
            have e2' : r_G M2 (28 * (z : Int) + 24) = t % 100 := by rw [← g4]; exact congrArg (r_G M2) (by omega)
            rw [e1', e2']
            show M2 24 z = _
            rw [m24]
            omega
        · exact h_Cq_cg (hC z hz) (g5 _ (by omega)) (fun d d0 d1 => g5 _ (by omega)) (fun a _ => m2 _ _ (by decide) (by omega) (by omega)) (m2 _ _ (by decide) (by omega) (by omega)) (m2 _ _ (by decide) (by omega) (by omega)) (m2 _ _ (by decide) (by omega) (by omega))
      · have j : E_C 150 [8, (q : Int), 0] M = some (0, M) := (h_150 h40).trans (congrArg some (congrArg (·, M) (if_neg (fun e => k0 (kq.symm.trans e)))))
        obtain ⟨e1, e2⟩ := Prod.mk.inj (Option.some.inj (k1.symm.trans (h_117b i j hf ht hL)))
        obtain ⟨f1, f2⟩ := Prod.mk.inj (Option.some.inj (k2.symm.trans (h_219b ip kk k0 hf ht hL)))
        refine ⟨e1.trans f1.symm, ?_⟩
        rw [f2, e2]
        exact hC
    · obtain ⟨e1, e2⟩ := Prod.mk.inj (Option.some.inj (k1.symm.trans (h_117a i hf ht (Or.inr hL))))
      obtain ⟨f1, f2⟩ := Prod.mk.inj (Option.some.inj (k2.symm.trans (h_219a ip hf ht (Or.inr hL))))
      refine ⟨e1.trans f1.symm, ?_⟩
      rw [f2, e2]
      exact hC
  · have i : E_C 149 [8, p] M = some (0, M) := h_149.trans (congrArg some (congrArg (·, M) (if_neg c)))
    have cg : ¬ (0 ≤ p ∧ p < r_G M1 1198) := by rw [eG1, ← h10]; exact c
    obtain ⟨e1, e2⟩ := Prod.mk.inj (Option.some.inj (k1.symm.trans (h_117a i hf ht (Or.inl rfl))))
    obtain ⟨f1, f2⟩ := Prod.mk.inj (Option.some.inj (k2.symm.trans (h_219a (r_ip0 hW1 cg) hf ht (Or.inl rfl))))
    refine ⟨e1.trans f1.symm, ?_⟩
    rw [f2, e2]
    exact hC
end
section
/-! count: class and reference count alike -/
def h_cnt (f : Nat → Bool) : Nat → Nat → Int
  | 0, _ => 0
  | m + 1, i => (bif f i then 1 else 0) + h_cnt f m (i + 1)
theorem h_cnt_b {f : Nat → Bool} : ∀ (m i : Nat), 0 ≤ h_cnt f m i ∧ h_cnt f m i ≤ m
  | 0, _ => ⟨Int.le_refl _, Int.le_refl _⟩
  | m + 1, i => by
    have := h_cnt_b (f := f) m (i + 1)
    unfold h_cnt
    cases f i <;> simp only [cond_true, cond_false] <;> omega
theorem h_cnt_cg {f g : Nat → Bool} : ∀ (m i : Nat), (∀ j, i ≤ j → j < i + m → f j = g j) → h_cnt f m i = h_cnt g m i
  | 0, _, _ => rfl
  | m + 1, i, h => by
    unfold h_cnt
    rw [h i (Nat.le_refl _) (by omega), h_cnt_cg m (i + 1) (fun j h1 h2 => h j (by omega) (by omega))]
theorem h_cz {m i n : Nat} {c : Int} (hm : i + (m + 1) = n) (h0 : 0 ≤ c) (h1 : c ≤ i) : (i + 1) + m = n ∧ 0 ≤ c + 1 ∧ c + 1 ≤ ((i + 1 : Nat) : Int) ∧ c ≤ ((i + 1 : Nat) : Int) := ⟨by omega, by omega, by omega, by omega⟩
theorem h_56l {k : Int} {n : Nat} {M : EM} (hn : M 10 0 = n) (h40 : n ≤ 40) : ∀ (m i : Nat) (c : Int), i + m = n → 0 ≤ c → c ≤ i → E_V 56 4 [10, k, c, (i : Int)] M = some (c + h_cnt (fun j => decide (M 11 j = k)) m i, M)
  | 0, i, c, hm, h0, h1 => by
    have e : i = n := by omega
    subst e
    have f := w_P0 M
    rw [hn] at f
    rw [E_V_eq]
    show e_tv E_C (E_V 56) e_t56_4 [10, k, c, (i : Int)] M = _
    unfold e_t56_4
    simp [e_tv, e_ev, e_sv, e_b1, e_b2, x_o1, x_o2, f, h_cnt]
  | m + 1, i, c, hm, h0, h1 => by
    obtain ⟨z1, z2, z3, z4⟩ := h_cz hm h0 h1
    have f := w_P0 M
    rw [hn] at f
    have t : E_C 146 [11, (i : Int)] M = some (M 11 i, M) := w_atN (a := 11) (i := (i : Int)) (n := 40) (by decide +kernel) (j := i) rfl (by omega) M
    have q : (i : Int) < (n : Int) := by omega
    have w1 : e_w ((i : Int) + 1) = ((i + 1 : Nat) : Int) := a_w_id (by omega) (by omega)
    have w2 : e_w (c + 1) = c + 1 := a_w_id (by omega) (by omega)
    have s27 : ∀ c, E_V 56 27 [10, k, c, (i : Int)] M = E_V 56 4 [10, k, c, ((i + 1 : Nat) : Int)] M := fun c => by
      rw [E_V_eq]
      show e_tv E_C (E_V 56) e_t56_27 [10, k, c, (i : Int)] M = _
      unfold e_t56_27
      simp [e_tv, e_ev, e_sv, e_b1, e_b2, x_o1, x_o2, w1]
    by_cases e : M 11 i = k
    · have s4 : E_V 56 4 [10, k, c, (i : Int)] M = E_V 56 27 [10, k, c + 1, (i : Int)] M := by
        rw [E_V_eq]
        show e_tv E_C (E_V 56) e_t56_4 [10, k, c, (i : Int)] M = _
        unfold e_t56_4
        simp [e_tv, e_ev, e_sv, e_b1, e_b2, x_o1, x_o2, f, q, w_P1, t, e, w2]
      rw [s4, s27, h_56l hn h40 m (i + 1) (c + 1) z1 z2 z3]
      refine congrArg some (congrArg (·, M) ?_)
      show _ = c + ((bif decide (M 11 i = k) then 1 else 0) + _)
      rw [decide_eq_true e]
      exact Int.add_assoc _ _ _
    · have s4 : E_V 56 4 [10, k, c, (i : Int)] M = E_V 56 27 [10, k, c, (i : Int)] M := by
        rw [E_V_eq]
        show e_tv E_C (E_V 56) e_t56_4 [10, k, c, (i : Int)] M = _
        unfold e_t56_4
        simp [e_tv, e_ev, e_sv, e_b1, e_b2, x_o1, x_o2, f, q, w_P1, t, e]
      rw [s4, s27, h_56l hn h40 m (i + 1) c z1 h0 z4]
      refine congrArg some (congrArg (·, M) ?_)
      show _ = c + ((bif decide (M 11 i = k) then 1 else 0) + _)
      rw [decide_eq_false e]
      exact congrArg (c + ·) (Int.zero_add _).symm
theorem h_56 {k : Int} {n : Nat} {M : EM} (hn : M 10 0 = n) (h40 : n ≤ 40) : E_C 56 [10, k] M = some (h_cnt (fun j => decide (M 11 j = k)) n 0, M) := by
  have l := h_56l (k := k) hn h40 n 0 0 (by omega) (by decide) (by decide)
  rw [Int.zero_add] at l
  rw [r_ent (show e_rok 56 [10, k] = true from decide_eq_true (show e_isO 4 10 by decide +kernel))]
  show e_tv E_C (E_V 56) e_t56_0 [10, k, 0, 0] M = _
  unfold e_t56_0
  have l' : E_V 56 4 [10, k, 0, 0] M = some (h_cnt (fun j => decide (M 11 j = k)) n 0, M) := l
  simp [e_tv, e_ev, e_sv, e_b1, e_b2, x_o1, x_o2, l']
theorem h_39l {n : Nat} {M : EM} (hn : M 10 0 = n) (h40 : n ≤ 40) : ∀ (m i : Nat) (c : Int), i + m = n → 0 ≤ c → c ≤ i → E_V 39 4 [18, 10, c, (i : Int)] M = some (c + h_cnt (fun j => decide (M 11 j = 0) && decide (M 22 j ≠ 0)) m i, M)
  | 0, i, c, hm, h0, h1 => by
    have e : i = n := by omega
    subst e
    have f := w_P0 M
    rw [hn] at f
    rw [E_V_eq]
    show e_tv E_C (E_V 39) e_t39_4 [18, 10, c, (i : Int)] M = _
    unfold e_t39_4
    simp [e_tv, e_ev, e_sv, e_b1, e_b2, x_o1, x_o2, f, h_cnt]
  | m + 1, i, c, hm, h0, h1 => by
    obtain ⟨z1, z2, z3, z4⟩ := h_cz hm h0 h1
    have f := w_P0 M
    rw [hn] at f
    have t : E_C 146 [11, (i : Int)] M = some (M 11 i, M) := w_atN (a := 11) (i := (i : Int)) (n := 40) (by decide +kernel) (j := i) rfl (by omega) M
    have t2 : E_C 146 [22, (i : Int)] M = some (M 22 i, M) := w_atN (a := 22) (i := (i : Int)) (n := 40) (by decide +kernel) (j := i) rfl (by omega) M
    have q : (i : Int) < (n : Int) := by omega
    have w1 : e_w ((i : Int) + 1) = ((i + 1 : Nat) : Int) := a_w_id (by omega) (by omega)
    have w2 : e_w (c + 1) = c + 1 := a_w_id (by omega) (by omega)
    have s27 : ∀ c, E_V 39 37 [18, 10, c, (i : Int)] M = E_V 39 4 [18, 10, c, ((i + 1 : Nat) : Int)] M := fun c => by
      rw [E_V_eq]
      show e_tv E_C (E_V 39) e_t39_37 [18, 10, c, (i : Int)] M = _
      unfold e_t39_37
      simp [e_tv, e_ev, e_sv, e_b1, e_b2, x_o1, x_o2, w1]
    have no : (decide (M 11 i = 0) && decide (M 22 i ≠ 0)) = false → E_V 39 4 [18, 10, c, (i : Int)] M = E_V 39 37 [18, 10, c, (i : Int)] M → E_V 39 4 [18, 10, c, (i : Int)] M = some (c + h_cnt (fun j => decide (M 11 j = 0) && decide (M 22 j ≠ 0)) (m + 1) i, M) := fun e s4 => by
      rw [s4, s27, h_39l hn h40 m (i + 1) c z1 h0 z4]
      refine congrArg some (congrArg (·, M) ?_)
      show _ = c + ((bif (decide (M 11 i = 0) && decide (M 22 i ≠ 0)) then 1 else 0) + _)
      rw [e]
      exact congrArg (c + ·) (Int.zero_add _).symm
    by_cases e : M 11 i = 0
    · by_cases e2 : M 22 i = 0
      · refine no (by rw [decide_eq_false (show ¬ M 22 i ≠ 0 from fun h => h e2), Bool.and_false]) ?_
        rw [E_V_eq]
        show e_tv E_C (E_V 39) e_t39_4 [18, 10, c, (i : Int)] M = _
        unfold e_t39_4
        simp [e_tv, e_ev, e_sv, e_b1, e_b2, x_o1, x_o2, f, q, w_P1, w_C3, t, t2, e, e2]
      · have s4 : E_V 39 4 [18, 10, c, (i : Int)] M = E_V 39 37 [18, 10, c + 1, (i : Int)] M := by
          rw [E_V_eq]
          show e_tv E_C (E_V 39) e_t39_4 [18, 10, c, (i : Int)] M = _
          unfold e_t39_4
          simp [e_tv, e_ev, e_sv, e_b1, e_b2, x_o1, x_o2, f, q, w_P1, w_C3, t, t2, e, e2, w2]
        rw [s4, s27, h_39l hn h40 m (i + 1) (c + 1) z1 z2 z3]
        refine congrArg some (congrArg (·, M) ?_)
        show _ = c + ((bif (decide (M 11 i = 0) && decide (M 22 i ≠ 0)) then 1 else 0) + _)
        rw [decide_eq_true e, decide_eq_true e2, Bool.and_true]
        exact Int.add_assoc _ _ _
    · refine no (by rw [decide_eq_false e, Bool.false_and]) ?_
      rw [E_V_eq]
      show e_tv E_C (E_V 39) e_t39_4 [18, 10, c, (i : Int)] M = _
      unfold e_t39_4
      simp [e_tv, e_ev, e_sv, e_b1, e_b2, x_o1, x_o2, f, q, w_P1, t, e]
theorem h_39 {n : Nat} {M : EM} (hn : M 10 0 = n) (h40 : n ≤ 40) : E_C 39 [18, 10] M = some (h_cnt (fun j => decide (M 11 j = 0) && decide (M 22 j ≠ 0)) n 0, M) := by
  have l := h_39l hn h40 n 0 0 (by omega) (by decide) (by decide)
  rw [Int.zero_add] at l
  rw [r_ent (show e_rok 39 [18, 10] = true by decide +kernel)]
  show e_tv E_C (E_V 39) e_t39_0 [18, 10, 0, 0] M = _
  unfold e_t39_0
  have l' : E_V 39 4 [18, 10, 0, 0] M = _ := l
  simp [e_tv, e_ev, e_sv, e_b1, e_b2, x_o1, x_o2, l']
end
section
/-! count: what stands on the roof; the reference's three loops -/
theorem h_73l {M : EM} : ∀ (m i : Nat) (c : Int), i + m = 10 → 0 ≤ c → c ≤ i → E_V 73 4 [26, c, (i : Int)] M = some (c + h_cnt (fun j => decide (0 < M 29 j)) m i, M)
  | 0, i, c, hm, h0, h1 => by
    have e : i = 10 := by omega
    subst e
    rw [E_V_eq]
    show e_tv E_C (E_V 73) e_t73_4 [26, c, ((10 : Nat) : Int)] M = _
    unfold e_t73_4
    simp [e_tv, e_ev, e_sv, e_b1, e_b2, x_o1, x_o2, h_cnt]
  | m + 1, i, c, hm, h0, h1 => by
    obtain ⟨z1, z2, z3, z4⟩ := h_cz hm h0 h1
    have t : E_C 146 [29, (i : Int)] M = some (M 29 i, M) := w_atN (a := 29) (i := (i : Int)) (n := 10) (by decide +kernel) (j := i) rfl (by omega) M
    have q : (i : Int) < 10 := by omega
    have w1 : e_w ((i : Int) + 1) = ((i + 1 : Nat) : Int) := a_w_id (by omega) (by omega)
    have w2 : e_w (c + 1) = c + 1 := a_w_id (by omega) (by omega)
    have s27 : ∀ c, E_V 73 24 [26, c, (i : Int)] M = E_V 73 4 [26, c, ((i + 1 : Nat) : Int)] M := fun c => by
      rw [E_V_eq]
      show e_tv E_C (E_V 73) e_t73_24 [26, c, (i : Int)] M = _
      unfold e_t73_24
      simp [e_tv, e_ev, e_sv, e_b1, e_b2, x_o1, x_o2, w1]
    generalize hx : M 29 i = x at t
    rcases x_lt 0 x with ⟨e, e'⟩ | ⟨e, e'⟩
    · have s4 : E_V 73 4 [26, c, (i : Int)] M = E_V 73 24 [26, c + 1, (i : Int)] M := by
        rw [E_V_eq]
        show e_tv E_C (E_V 73) e_t73_4 [26, c, (i : Int)] M = _
        unfold e_t73_4
        simp [e_tv, e_ev, e_sv, e_b1, e_b2, x_o1, x_o2, q, p_386, t, e, e', w2]
      rw [s4, s27, h_73l m (i + 1) (c + 1) z1 z2 z3]
      refine congrArg some (congrArg (·, M) ?_)
      show _ = c + ((bif decide (0 < M 29 i) then 1 else 0) + _)
      rw [hx, decide_eq_true e]
      exact Int.add_assoc _ _ _
    · have s4 : E_V 73 4 [26, c, (i : Int)] M = E_V 73 24 [26, c, (i : Int)] M := by
        rw [E_V_eq]
        show e_tv E_C (E_V 73) e_t73_4 [26, c, (i : Int)] M = _
        unfold e_t73_4
        simp [e_tv, e_ev, e_sv, e_b1, e_b2, x_o1, x_o2, q, p_386, t, e, e']
      rw [s4, s27, h_73l m (i + 1) c z1 h0 z4]
      refine congrArg some (congrArg (·, M) ?_)
      show _ = c + ((bif decide (0 < M 29 i) then 1 else 0) + _)
      rw [hx, decide_eq_false e]
      exact congrArg (c + ·) (Int.zero_add _).symm
theorem h_73 {M : EM} : E_C 73 [26] M = some (h_cnt (fun j => decide (0 < M 29 j)) 10 0, M) := by
  have l := h_73l (M := M) 10 0 0 (by omega) (by decide) (by decide)
  rw [Int.zero_add] at l
  rw [r_ent (show e_rok 73 [26] = true by decide +kernel)]
  show e_tv E_C (E_V 73) e_t73_0 [26, 0, 0] M = _
  unfold e_t73_0
  have l' : E_V 73 4 [26, 0, 0] M = _ := l
  simp [e_tv, e_ev, e_sv, e_b1, e_b2, x_o1, x_o2, l']
theorem h_257a {w : Int} {n : Nat} {M : EM} (hw : 1 ≤ w ∧ w ≤ 4) (hn : r_G M 1198 = n) (h40 : n ≤ 40) : ∀ (m i : Nat) (c : Int), i + m = n → 0 ≤ c → c ≤ i → E_V 257 63 [192, w, c, (i : Int)] M = some (c + h_cnt (fun j => decide (r_G M (28 * (j : Int)) = w - 1)) m i, M)
  | 0, i, c, hm, h0, h1 => by
    have e : i = n := by omega
    subst e
    have l : e_op 60 [193, 1198] M = some (i : Int) := (r_rd (by decide) (by decide)).trans (congrArg some hn)
    rw [E_V_eq]
    show e_tv E_C (E_V 257) e_t257_63 [192, w, c, (i : Int)] M = _
    unfold e_t257_63
    simp [e_tv, e_ev, e_sv, e_b1, e_b2, x_o1, x_o2, r_O0, l, h_cnt]
  | m + 1, i, c, hm, h0, h1 => by
    obtain ⟨z1, z2, z3, z4⟩ := h_cz hm h0 h1
    have l : e_op 60 [193, 1198] M = some (n : Int) := (r_rd (by decide) (by decide)).trans (congrArg some hn)
    have t : E_C 170 [192, (i : Int)] M = some (r_G M (28 * (i : Int)), M) := r_kind ⟨by omega, by omega⟩
    have q : (i : Int) < (n : Int) := by omega
    have w1 : e_w ((i : Int) + 1) = ((i + 1 : Nat) : Int) := a_w_id (by omega) (by omega)
    have w2 : e_w (c + 1) = c + 1 := a_w_id (by omega) (by omega)
    have w4 : e_w c = c := a_w_id (by omega) (by omega)
    have w3 : e_w (w - 1) = w - 1 := a_w_id (by omega) (by omega)
    by_cases e : r_G M (28 * (i : Int)) = w - 1
    · have s4 : E_V 257 63 [192, w, c, (i : Int)] M = E_V 257 63 [192, w, c + 1, ((i + 1 : Nat) : Int)] M := by
        rw [E_V_eq]
        show e_tv E_C (E_V 257) e_t257_63 [192, w, c, (i : Int)] M = _
        unfold e_t257_63
        simp [e_tv, e_ev, e_sv, e_b1, e_b2, x_o1, x_o2, r_O0, l, q, t, e, w1, w2, w3]
      rw [s4, h_257a hw hn h40 m (i + 1) (c + 1) z1 z2 z3]
      refine congrArg some (congrArg (·, M) ?_)
      show _ = c + ((bif decide (r_G M (28 * (i : Int)) = w - 1) then 1 else 0) + _)
      rw [decide_eq_true e]
      exact Int.add_assoc _ _ _
    · have s4 : E_V 257 63 [192, w, c, (i : Int)] M = E_V 257 63 [192, w, c, ((i + 1 : Nat) : Int)] M := by
        rw [E_V_eq]
        show e_tv E_C (E_V 257) e_t257_63 [192, w, c, (i : Int)] M = _
        unfold e_t257_63
        simp [e_tv, e_ev, e_sv, e_b1, e_b2, x_o1, x_o2, r_O0, l, q, t, e, w1, w4, w3]
      rw [s4, h_257a hw hn h40 m (i + 1) c z1 h0 z4]
      refine congrArg some (congrArg (·, M) ?_)
      show _ = c + ((bif decide (r_G M (28 * (i : Int)) = w - 1) then 1 else 0) + _)
      rw [decide_eq_false e]
      exact congrArg (c + ·) (Int.zero_add _).symm
theorem h_257c {w : Int} {M : EM} : ∀ (m i : Nat) (c : Int), i + m = 10 → 0 ≤ c → c ≤ i → E_V 257 158 [192, w, c, (i : Int)] M = some (c + h_cnt (fun j => decide (0 < r_G M (1120 + 3 * (j : Int) + 2))) m i, M)
  | 0, i, c, hm, h0, h1 => by
    have e : i = 10 := by omega
    subst e
    rw [E_V_eq]
    show e_tv E_C (E_V 257) e_t257_158 [192, w, c, ((10 : Nat) : Int)] M = _
    unfold e_t257_158
    simp [e_tv, e_ev, e_sv, e_b1, e_b2, x_o1, x_o2, h_cnt]
  | m + 1, i, c, hm, h0, h1 => by
    obtain ⟨z1, z2, z3, z4⟩ := h_cz hm h0 h1
    have q : (i : Int) < 10 := by omega
    have w1 : e_w ((i : Int) + 1) = ((i + 1 : Nat) : Int) := a_w_id (by omega) (by omega)
    have w2 : e_w (c + 1) = c + 1 := a_w_id (by omega) (by omega)
    have w3 : e_w c = c := a_w_id (by omega) (by omega)
    have w4 : e_w (3 * (i : Int)) = 3 * (i : Int) := a_w_id (by omega) (by omega)
    have w5 : e_w (1120 + 3 * (i : Int)) = 1120 + 3 * (i : Int) := a_w_id (by omega) (by omega)
    have w6 : e_w (1120 + 3 * (i : Int) + 2) = 1120 + 3 * (i : Int) + 2 := a_w_id (by omega) (by omega)
    have l2 : e_op 60 [193, 1120 + 3 * (i : Int) + 2] M = some (r_G M (1120 + 3 * (i : Int) + 2)) := r_rd (by omega) (by omega)
    generalize hx : r_G M (1120 + 3 * (i : Int) + 2) = x at l2
    rcases x_lt 0 x with ⟨e, e'⟩ | ⟨e, e'⟩
    · have s4 : E_V 257 158 [192, w, c, (i : Int)] M = E_V 257 158 [192, w, c + 1, ((i + 1 : Nat) : Int)] M := by
        rw [E_V_eq]
        show e_tv E_C (E_V 257) e_t257_158 [192, w, c, (i : Int)] M = _
        unfold e_t257_158
        simp [e_tv, e_ev, e_sv, e_b1, e_b2, x_o1, x_o2, r_O0, q, e, e', w1, w2, w4, w5, w6, l2]
      rw [s4, h_257c m (i + 1) (c + 1) z1 z2 z3]
      refine congrArg some (congrArg (·, M) ?_)
      show _ = c + ((bif decide (0 < r_G M (1120 + 3 * (i : Int) + 2)) then 1 else 0) + _)
      rw [hx, decide_eq_true e]
      exact Int.add_assoc _ _ _
    · have s4 : E_V 257 158 [192, w, c, (i : Int)] M = E_V 257 158 [192, w, c, ((i + 1 : Nat) : Int)] M := by
        rw [E_V_eq]
        show e_tv E_C (E_V 257) e_t257_158 [192, w, c, (i : Int)] M = _
        unfold e_t257_158
        simp [e_tv, e_ev, e_sv, e_b1, e_b2, x_o1, x_o2, r_O0, q, e, e', w1, w3, w4, w5, w6, l2]
      rw [s4, h_257c m (i + 1) c z1 h0 z4]
      refine congrArg some (congrArg (·, M) ?_)
      show _ = c + ((bif decide (0 < r_G M (1120 + 3 * (i : Int) + 2)) then 1 else 0) + _)
      rw [hx, decide_eq_false e]
      exact congrArg (c + ·) (Int.zero_add _).symm
end
section
/-! count: the reference's DEAD -/
theorem h_bz {i : Nat} {c : Int} (hi : i < 40) (h0 : 0 ≤ c) (h1 : c ≤ i) : e_w ((i : Int) + 1) = ((i + 1 : Nat) : Int) ∧ e_w (c + 1) = c + 1 ∧ e_w c = c ∧ e_w (28 * (i : Int)) = 28 * (i : Int) ∧ e_w (28 * (i : Int) + 19) = 28 * (i : Int) + 19 := ⟨a_w_id (by omega) (by omega), a_w_id (by omega) (by omega), a_w_id (by omega) (by omega), a_w_id (by omega) (by omega), a_w_id (by omega) (by omega)⟩
/-- a step of the loop, values as variables -/
theorem h_257y {w c c' i i' a d : Int} {n : Int} {M : EM} (l : e_op 60 [193, 1198] M = some n) (q : i < n) (t : E_C 170 [192, i] M = some (0, M)) (w1 : e_w (i + 1) = i') (w2 : e_w (c + 1) = c') (w5 : e_w (28 * i) = a) (w6 : e_w (a + 19) = d) (l2 : e_op 60 [193, d] M = some 1) : E_V 257 104 [192, w, c, i] M = E_V 257 104 [192, w, c', i'] M := by
  rw [E_V_eq]
  show e_tv E_C (E_V 257) e_t257_104 [192, w, c, i] M = _
  unfold e_t257_104
  simp [e_tv, e_ev, e_sv, e_b1, e_b2, x_o1, x_o2, r_O0, l, q, t, w1, w2, w5, w6, l2]
theorem h_257z {w c i i' a d x : Int} {n : Int} {M : EM} (l : e_op 60 [193, 1198] M = some n) (q : i < n) (t : E_C 170 [192, i] M = some (0, M)) (w1 : e_w (i + 1) = i') (w4 : e_w c = c) (w5 : e_w (28 * i) = a) (w6 : e_w (a + 19) = d) (l2 : e_op 60 [193, d] M = some x) (hx : x ≠ 1) : E_V 257 104 [192, w, c, i] M = E_V 257 104 [192, w, c, i'] M := by
  rw [E_V_eq]
  show e_tv E_C (E_V 257) e_t257_104 [192, w, c, i] M = _
  unfold e_t257_104
  simp [e_tv, e_ev, e_sv, e_b1, e_b2, x_o1, x_o2, r_O0, l, q, t, w1, w4, w5, w6, l2, hx]
theorem h_257n {w c i i' k : Int} {n : Int} {M : EM} (l : e_op 60 [193, 1198] M = some n) (q : i < n) (t : E_C 170 [192, i] M = some (k, M)) (hk : k ≠ 0) (w1 : e_w (i + 1) = i') (w4 : e_w c = c) : E_V 257 104 [192, w, c, i] M = E_V 257 104 [192, w, c, i'] M := by
  rw [E_V_eq]
  show e_tv E_C (E_V 257) e_t257_104 [192, w, c, i] M = _
  unfold e_t257_104
  simp [e_tv, e_ev, e_sv, e_b1, e_b2, x_o1, x_o2, r_O0, l, q, t, hk, w1, w4]
theorem h_257e {w c i : Int} {M : EM} (l : e_op 60 [193, 1198] M = some i) : E_V 257 104 [192, w, c, i] M = some (c, M) := by
  rw [E_V_eq]
  show e_tv E_C (E_V 257) e_t257_104 [192, w, c, i] M = _
  unfold e_t257_104
  simp [e_tv, e_ev, e_sv, e_b1, e_b2, x_o1, x_o2, r_O0, l]
def h_dd (g : Int → Int) (j : Nat) : Bool := decide (g (28 * (j : Int)) = 0) && decide (g (28 * (j : Int) + 19) = 1)
theorem h_257b {w : Int} {n : Nat} {M : EM} (hn : r_G M 1198 = n) (h40 : n ≤ 40) : ∀ (m i : Nat) (c : Int), i + m = n → 0 ≤ c → c ≤ i → E_V 257 104 [192, w, c, (i : Int)] M = some (c + h_cnt (h_dd (r_G M)) m i, M) := by
  have l : e_op 60 [193, 1198] M = some (n : Int) := (r_rd (by decide) (by decide)).trans (congrArg some hn)
  intro m
  induction m with
  | zero =>
    intro i c hm h0 h1
    have e : i = n := by omega
    subst e
    rw [h_257e l]
    exact congrArg some (congrArg (·, M) (Int.add_zero c).symm)
  | succ m ih =>
    intro i c hm h0 h1
    obtain ⟨z1, z2, z3, z4⟩ := h_cz hm h0 h1
    have hi : i < 40 := by omega
    have q : (i : Int) < (n : Int) := by omega
    have t : E_C 170 [192, (i : Int)] M = some (r_G M (28 * (i : Int)), M) := r_kind ⟨by omega, by omega⟩
    have l2 : e_op 60 [193, 28 * (i : Int) + 19] M = some (r_G M (28 * (i : Int) + 19)) := r_rd (by omega) (by omega)
    obtain ⟨w1, w2, w4, w5, w6⟩ := h_bz (i := i) (c := c) hi h0 h1
    have no : h_dd (r_G M) i = false → E_V 257 104 [192, w, c, (i : Int)] M = E_V 257 104 [192, w, c, ((i + 1 : Nat) : Int)] M → E_V 257 104 [192, w, c, (i : Int)] M = some (c + h_cnt (h_dd (r_G M)) (m + 1) i, M) := fun e s4 => by
      rw [s4, ih (i + 1) c z1 h0 z4]
      refine congrArg some (congrArg (·, M) ?_)
      show _ = c + ((bif h_dd (r_G M) i then 1 else 0) + _)
      rw [e]
      exact congrArg (c + ·) (Int.zero_add _).symm
    by_cases e : r_G M (28 * (i : Int)) = 0
    · rw [e] at t
      by_cases e2 : r_G M (28 * (i : Int) + 19) = 1
      · rw [e2] at l2
        rw [h_257y l q t w1 w2 w5 w6 l2, ih (i + 1) (c + 1) z1 z2 z3]
        refine congrArg some (congrArg (·, M) ?_)
        show _ = c + ((bif h_dd (r_G M) i then 1 else 0) + _)
        rw [show h_dd (r_G M) i = true from Bool.and_eq_true_iff.mpr ⟨decide_eq_true e, decide_eq_true e2⟩]
        exact Int.add_assoc _ _ _
      · exact no (by unfold h_dd; rw [decide_eq_false e2, Bool.and_false]) (h_257z l q t w1 w4 w5 w6 l2 e2)
    · exact no (by unfold h_dd; rw [decide_eq_false e, Bool.false_and]) (h_257n l q t e w1 w4)
end
section
/-! count: the pair -/
theorem h_390 (M : EM) : e_gf 390 [26] M = some (M 26 6) := c_gf (by decide +kernel) (by decide +kernel)
theorem h_138s {w : Int} {M : EM} : E_C 138 [8, w] M = e_tv E_C (E_V 138) e_t138_0 [8, w] M := r_ent (u := 138) (as := [8, w]) (M := M) (decide_eq_true c_this)
theorem h_138n {w : Int} {M : EM} (h : w < 0 ∨ 8 < w) : E_C 138 [8, w] M = some (-1, M) := by
  rw [h_138s]
  unfold e_t138_0
  rcases x_le 0 w with ⟨c, c_n⟩ | ⟨c, c_n⟩
  · have c2 : 8 < w := by omega
    have c3 : ¬ w ≤ 8 := by omega
    simp [e_tv, e_ev, e_sv, e_b1, e_b2, x_o1, x_o2, c, c_n, c2, c3]
  · simp [e_tv, e_ev, e_sv, e_b1, e_b2, x_o1, x_o2, c, c_n]
theorem h_138_0 {M : EM} : E_C 138 [8, 0] M = some (M 10 0, M) := by
  rw [h_138s]
  unfold e_t138_0
  have f := w_P0 M
  simp [e_tv, e_ev, e_sv, e_b1, e_b2, x_o1, x_o2, p_704, w_H0, f]
theorem h_138_a {w r : Int} {M : EM} (h : 1 ≤ w ∧ w ≤ 4) (k : E_C 56 [10, w - 1] M = some (r, M)) : E_C 138 [8, w] M = some (r, M) := by
  rw [h_138s]
  unfold e_t138_0
  have w3 : e_w (w - 1) = w - 1 := a_w_id (by omega) (by omega)
  have c1 : 0 ≤ w := by omega
  have c1' : ¬ w < 0 := by omega
  have c2 : ¬ 8 < w := by omega
  have c2' : w ≤ 8 := by omega
  have c3 : w ≠ 0 := by omega
  have c4 : w ≤ 4 := by omega
  have c4' : ¬ 4 < w := by omega
  simp [e_tv, e_ev, e_sv, e_b1, e_b2, x_o1, x_o2, p_704, w_H0, w3, c1, c1', c2, c2', c3, c4, c4', k]
theorem h_138_5 {r : Int} {M : EM} (k : E_C 39 [18, 10] M = some (r, M)) : E_C 138 [8, 5] M = some (r, M) := by
  rw [h_138s]
  unfold e_t138_0
  simp [e_tv, e_ev, e_sv, e_b1, e_b2, x_o1, x_o2, p_704, w_H0, w_H1, k]
theorem h_138_6 {r : Int} {M : EM} (k : E_C 73 [26] M = some (r, M)) : E_C 138 [8, 6] M = some (r, M) := by
  rw [h_138s]
  unfold e_t138_0
  simp [e_tv, e_ev, e_sv, e_b1, e_b2, x_o1, x_o2, p_704, p_195, k]
theorem h_138_7 {M : EM} : E_C 138 [8, 7] M = some (M 26 6, M) := by
  rw [h_138s]
  unfold e_t138_0
  have f := h_390 M
  simp [e_tv, e_ev, e_sv, e_b1, e_b2, x_o1, x_o2, p_704, p_195, f]
theorem h_138_8 {M : EM} : E_C 138 [8, 8] M = some (M 33 2, M) := by
  rw [h_138s]
  unfold e_t138_0
  have f := p_578 M
  simp [e_tv, e_ev, e_sv, e_b1, e_b2, x_o1, x_o2, p_704, p_196, f]
theorem h_257s {w : Int} {M : EM} : E_C 257 [192, w] M = E_V 257 (if w < 0 ∨ 9 ≤ w then 215 else e_nth (.add (.num 52) (.add (.num 61) (.add (.num 61) (.add (.num 61) (.add (.num 61) (.add (.num 102) (.add (.num 156) (.add (.num 197) (.add (.num 206) (.num 215)))))))))) (w - 0).toNat) [192, w, 0, 0] M := by
  have h1 : E_C 257 [192, w] M = e_tv E_C (E_V 257) e_t257_0 [192, w, 0, 0] M := by
    unfold E_C
    rw [if_pos (show e_rok 257 [192, w] = true from decide_eq_true r_ref), E_V_eq]
    rfl
  rw [h1]
  unfold e_t257_0
  rfl
theorem h_257o {w r : Int} {M : EM} {l : Nat} (q : ¬ (w < 0 ∨ 9 ≤ w)) (e : e_nth (.add (.num 52) (.add (.num 61) (.add (.num 61) (.add (.num 61) (.add (.num 61) (.add (.num 102) (.add (.num 156) (.add (.num 197) (.add (.num 206) (.num 215)))))))))) (w - 0).toNat = l) (k : E_V 257 l [192, w, 0, 0] M = some (r, M)) : E_C 257 [192, w] M = some (r, M) := by
  rw [h_257s, if_neg q, e]
  exact k
theorem h_257n' {w : Int} {M : EM} (h : w < 0 ∨ 9 ≤ w) : E_C 257 [192, w] M = some (-1, M) := by
  rw [h_257s, if_pos h]
  rw [E_V_eq]
  show e_tv E_C (E_V 257) e_t257_215 [192, w, 0, 0] M = _
  unfold e_t257_215
  simp [e_tv, e_ev, e_sv, e_b1, e_b2, x_o1, x_o2]
theorem h_257_0 {M : EM} : E_C 257 [192, 0] M = some (r_G M 1198, M) := by
  refine h_257o (l := 52) (by decide) (by decide +kernel) ?_
  have l : e_op 60 [193, 1198] M = some (r_G M 1198) := r_rd (by decide) (by decide)
  rw [E_V_eq]
  show e_tv E_C (E_V 257) e_t257_52 [192, 0, 0, 0] M = _
  unfold e_t257_52
  simp [e_tv, e_ev, e_sv, e_b1, e_b2, x_o1, x_o2, r_O0, l]
theorem h_257_a {w : Int} {n : Nat} {M : EM} (h : 1 ≤ w ∧ w ≤ 4) (hn : r_G M 1198 = n) (h40 : n ≤ 40) : E_C 257 [192, w] M = some (h_cnt (fun j => decide (r_G M (28 * (j : Int)) = w - 1)) n 0, M) := by
  have k := h_257a h hn h40 n 0 0 (by omega) (by decide) (by decide)
  rw [Int.zero_add] at k
  have k' : E_V 257 63 [192, w, 0, 0] M = some (h_cnt (fun j => decide (r_G M (28 * (j : Int)) = w - 1)) n 0, M) := k
  have k2 : E_V 257 61 [192, w, 0, 0] M = some (h_cnt (fun j => decide (r_G M (28 * (j : Int)) = w - 1)) n 0, M) := by
    rw [E_V_eq]
    show e_tv E_C (E_V 257) e_t257_61 [192, w, 0, 0] M = _
    unfold e_t257_61
    simp [e_tv, e_ev, e_sv, e_b1, e_b2, x_o1, x_o2, k']
  refine h_257o (l := 61) (by omega) ?_ k2
  have h9 : w = 1 ∨ w = 2 ∨ w = 3 ∨ w = 4 := by omega
  rcases h9 with rfl | rfl | rfl | rfl <;> decide +kernel
theorem h_257_5 {n : Nat} {M : EM} (hn : r_G M 1198 = n) (h40 : n ≤ 40) : E_C 257 [192, 5] M = some (h_cnt (h_dd (r_G M)) n 0, M) := by
  have k := h_257b (w := 5) hn h40 n 0 0 (by omega) (by decide) (by decide)
  rw [Int.zero_add] at k
  have k' : E_V 257 104 [192, 5, 0, 0] M = some (h_cnt (h_dd (r_G M)) n 0, M) := k
  refine h_257o (l := 102) (by decide) (by decide +kernel) ?_
  rw [E_V_eq]
  show e_tv E_C (E_V 257) e_t257_102 [192, 5, 0, 0] M = _
  unfold e_t257_102
  simp [e_tv, e_ev, e_sv, e_b1, e_b2, x_o1, x_o2, k']
theorem h_257_6 {M : EM} : E_C 257 [192, 6] M = some (h_cnt (fun j => decide (0 < r_G M (1120 + 3 * (j : Int) + 2))) 10 0, M) := by
  have k := h_257c (w := 6) (M := M) 10 0 0 (by omega) (by decide) (by decide)
  rw [Int.zero_add] at k
  have k' : E_V 257 158 [192, 6, 0, 0] M = some (h_cnt (fun j => decide (0 < r_G M (1120 + 3 * (j : Int) + 2))) 10 0, M) := k
  refine h_257o (l := 156) (by decide) (by decide +kernel) ?_
  rw [E_V_eq]
  show e_tv E_C (E_V 257) e_t257_156 [192, 6, 0, 0] M = _
  unfold e_t257_156
  simp [e_tv, e_ev, e_sv, e_b1, e_b2, x_o1, x_o2, k']
theorem h_257_7 {M : EM} : E_C 257 [192, 7] M = some (r_G M 1200, M) := by
  refine h_257o (l := 197) (by decide) (by decide +kernel) ?_
  have l : e_op 60 [193, 1200] M = some (r_G M 1200) := r_rd (by decide) (by decide)
  rw [E_V_eq]
  show e_tv E_C (E_V 257) e_t257_197 [192, 7, 0, 0] M = _
  unfold e_t257_197
  simp [e_tv, e_ev, e_sv, e_b1, e_b2, x_o1, x_o2, r_O0, l]
theorem h_257_8 {M : EM} : E_C 257 [192, 8] M = some (r_G M 1199, M) := by
  refine h_257o (l := 206) (by decide) (by decide +kernel) ?_
  have l : e_op 60 [193, 1199] M = some (r_G M 1199) := r_rd (by decide) (by decide)
  rw [E_V_eq]
  show e_tv E_C (E_V 257) e_t257_206 [192, 8, 0, 0] M = _
  unfold e_t257_206
  simp [e_tv, e_ev, e_sv, e_b1, e_b2, x_o1, x_o2, r_O0, l]
end
section
/-! count: both say the same -/
theorem h_counts {w r1 r2 : Int} {M M1 M2 : EM} (hB : h_B M 0 (r_G M)) (hC : h_C M 0 (r_G M)) (hR : p_rel M (M 193)) (hs : M 26 6 = r_G M 1200) (k1 : E_C 138 [8, w] M = some (r1, M1)) (k2 : E_C 257 [192, w] M1 = some (r2, M2)) : r1 = r2 ∧ M1 = M ∧ M2 = M := by
  have fin : ∀ r r' : Int, r = r' → E_C 138 [8, w] M = some (r, M) → E_C 257 [192, w] M = some (r', M) → r1 = r2 ∧ M1 = M ∧ M2 = M := fun r r' e t1 t2 => by
    obtain ⟨a1, a2⟩ := Prod.mk.inj (Option.some.inj (k1.symm.trans t1))
    rw [a2] at k2
    obtain ⟨b1, b2⟩ := Prod.mk.inj (Option.some.inj (k2.symm.trans t2))
    exact ⟨a1.trans (e.trans b1.symm), a2, b2⟩
  obtain ⟨n, hn⟩ : ∃ n : Nat, r_G M 1198 = n := ⟨(r_G M 1198).toNat, by have := hB.2.1; omega⟩
  have h40 : n ≤ 40 := by have := hB.2.1; omega
  have h10 : M 10 0 = n := hB.1.trans hn
  have hb : ∀ j : Nat, j < n → M 11 j = r_G M (28 * (j : Int)) := fun j hj => (hB.2.2 j (by omega)).1
  by_cases c0 : w < 0 ∨ 9 ≤ w
  · exact fin _ _ rfl (h_138n (by omega)) (h_257n' c0)
  · by_cases c1 : 1 ≤ w ∧ w ≤ 4
    · refine fin _ _ (h_cnt_cg n 0 (fun j _ hj => ?_)) (h_138_a c1 (h_56 h10 h40)) (h_257_a c1 hn h40)
      rw [hb j (by omega)]
    · have h9 : w = 0 ∨ w = 5 ∨ w = 6 ∨ w = 7 ∨ w = 8 := by omega
      rcases h9 with rfl | rfl | rfl | rfl | rfl
      · exact fin _ _ hB.1 h_138_0 h_257_0
      · refine fin _ _ (h_cnt_cg n 0 (fun j _ hj => ?_)) (h_138_5 (h_39 h10 h40)) (h_257_5 hn h40)
        have hj' : j < n := by omega
        show (decide (M 11 j = 0) && decide (M 22 j ≠ 0)) = (decide (r_G M (28 * (j : Int)) = 0) && decide (r_G M (28 * (j : Int) + 19) = 1))
        rw [hb j hj']
        by_cases e : r_G M (28 * (j : Int)) = 0
        · obtain ⟨-, ⟨d1, d2⟩, -⟩ := hC j (by rw [hn]; exact Int.ofNat_lt.mpr hj') e
          have d1 : M 22 j = r_G M (28 * (j : Int) + 19) := d1
          rw [d1]
          rcases d2 with d2 | d2
          · rw [d2]; rfl
          · rw [d2]; rfl
        · rw [decide_eq_false e, Bool.false_and, Bool.false_and]
      · refine fin _ _ (h_cnt_cg 10 0 (fun j _ hj => ?_)) (h_138_6 h_73) h_257_6
        have e : M 29 j = M 193 (1120 + 3 * j + 2) := hR _ (p_inW j (by omega)).2.2
        have e2 : r_G M (1120 + 3 * (j : Int) + 2) = M 193 (1120 + 3 * j + 2) := congrArg (M 193) (by omega)
        rw [e2, ← e]
      · exact fin _ _ hs h_138_7 h_257_7
      · exact fin _ _ (hR _ p_inR) h_138_8 h_257_8
end
section
/-! what is told of CELLS: what keeps it; image and restore -/
def h_KC (dc s : Nat) : AW := [(21 + dc, 0, 159), (22 + dc, 0, 39), (23 + dc, 0, 39), (24 + dc, 0, 39), (s, 1198, 1198)] ++ (List.range 40).flatMap (fun q => [(s, 28 * q, 28 * q), (s, 28 * q + 15, 28 * q + 24)])
theorem h_keepC {dc s : Nat} {M M' : EM} (h : ∀ c ∈ h_KC dc s, ∀ k, c.2.1 ≤ k → k ≤ c.2.2 → M' c.1 k = M c.1 k) (h40 : M s 1198 ≤ 40) (hC : h_C M dc (fun i => M s i.toNat)) : h_C M' dc (fun i => M' s i.toNat) := by
  have m0 : ∀ c, c ∈ [(21 + dc, 0, 159), (22 + dc, 0, 39), (23 + dc, 0, 39), (24 + dc, 0, 39), (s, 1198, 1198)] → c ∈ h_KC dc s := fun c hc => List.mem_append.mpr (Or.inl hc)
  have e98 : M' s 1198 = M s 1198 := h (s, 1198, 1198) (m0 _ (by simp)) 1198 (Nat.le_refl _) (Nat.le_refl _)
  intro q hq
  have hq1 : (q : Int) < M' s 1198 := hq
  rw [e98] at hq1
  have q40 : q < 40 := by omega
  have mq : ∀ c, c ∈ [(s, 28 * q, 28 * q), (s, 28 * q + 15, 28 * q + 24)] → c ∈ h_KC dc s := fun c hc => List.mem_append.mpr (Or.inr (List.mem_flatMap.mpr ⟨q, List.mem_range.mpr q40, hc⟩))
  refine h_Cq_cg (hC q hq1) ?_ (fun d d0 d1 => ?_) (fun a ha => h (21 + dc, 0, 159) (m0 _ (by simp)) _ (Nat.zero_le _) (by show 4 * q + a ≤ 159; omega)) (h (22 + dc, 0, 39) (m0 _ (by simp)) _ (Nat.zero_le _) (by show q ≤ 39; omega)) (h (23 + dc, 0, 39) (m0 _ (by simp)) _ (Nat.zero_le _) (by show q ≤ 39; omega)) (h (24 + dc, 0, 39) (m0 _ (by simp)) _ (Nat.zero_le _) (by show q ≤ 39; omega))
  · have e := h _ (mq (s, 28 * q, 28 * q) (by simp)) (28 * q) (Nat.le_refl _) (Nat.le_refl _)
    show M' s (28 * (q : Int)).toNat = M s (28 * (q : Int)).toNat
    rw [show (28 * (q : Int)).toNat = 28 * q by omega]
    exact e
  · exact h _ (mq (s, 28 * q + 15, 28 * q + 24) (by simp)) (28 * (q : Int) + d).toNat (by show 28 * q + 15 ≤ _; omega) (by show _ ≤ 28 * q + 24; omega)
theorem h_C_tr {M M' : EM} {dc dc' : Nat} {g g' : Int → Int} (hC : h_C M dc g) (h40 : g 1198 ≤ 40) (eg : ∀ i : Int, 0 ≤ i → i < 1330 → g' i = g i) (c1 : ∀ j, j < 160 → M' (21 + dc') j = M (21 + dc) j) (c2 : ∀ j, j < 40 → M' (22 + dc') j = M (22 + dc) j ∧ M' (23 + dc') j = M (23 + dc) j ∧ M' (24 + dc') j = M (24 + dc) j) : h_C M' dc' g' := by
  intro q hq hk
  rw [eg 1198 (by decide) (by decide)] at hq
  have q40 : q < 40 := by omega
  rw [eg (28 * (q : Int)) (by omega) (by omega)] at hk
  obtain ⟨b1, b2, b3⟩ := c2 q q40
  obtain ⟨d1, d2, d3⟩ := hC q hq hk
  rw [b1, b2, b3, eg (28 * (q : Int) + 19) (by omega) (by omega), eg (28 * (q : Int) + 20) (by omega) (by omega), eg (28 * (q : Int) + 21) (by omega) (by omega), eg (28 * (q : Int) + 22) (by omega) (by omega), eg (28 * (q : Int) + 23) (by omega) (by omega), eg (28 * (q : Int) + 24) (by omega) (by omega)]
  refine ⟨fun a ha => ?_, d2, d3⟩
  rw [c1 _ (by omega), eg (28 * (q : Int) + 15 + (a : Int)) (by omega) (by omega)]
  exact d1 a ha
theorem h_covC : (∃ w ∈ p_D48, w.1 = 21 ∧ w.2.1 = 0 ∧ 159 ≤ w.2.2) ∧ (∃ w ∈ p_D48, w.1 = 22 ∧ w.2.1 = 0 ∧ 39 ≤ w.2.2) ∧ (∃ w ∈ p_D48, w.1 = 23 ∧ w.2.1 = 0 ∧ 39 ≤ w.2.2) ∧ (∃ w ∈ p_D48, w.1 = 24 ∧ w.2.1 = 0 ∧ 39 ≤ w.2.2) := by decide +kernel
theorem h_cpx {so to id n : Nat} {M M1 : EM} (c : p_C so to p_D48 M M1) (h : ∃ w ∈ p_D48, w.1 = id ∧ w.2.1 = 0 ∧ n ≤ w.2.2) {j : Nat} (hj : j ≤ n) : M1 (id + to) j = M (id + so) j := by
  obtain ⟨w, w1, w2, w3, w4⟩ := h
  have := c.1 w w1 j (by omega) (by omega)
  rw [w2] at this
  exact this
theorem h_imageC {r1 r2 : Int} {M M1 M2 : EM} (h40 : r_G M 1198 ≤ 40) (hC : h_C M 0 (r_G M)) (k1 : E_C 136 [8] M = some (r1, M1)) (k2 : E_C 255 [192] M1 = some (r2, M2)) : h_C M2 0 (r_G M2) ∧ h_C M2 68 (r_Gi M2) := by
  obtain ⟨N, c1, c2⟩ := p_image M
  obtain ⟨e1, e2⟩ := Prod.mk.inj (Option.some.inj (k1.symm.trans c1))
  subst e2
  obtain ⟨e3, e4⟩ := Prod.mk.inj (Option.some.inj (k2.symm.trans (r_image _)))
  have far : ∀ id j, id < 78 ∨ 145 < id → N id j = M id j := fun id j h => c2.2.1 _ _ (fun w hw e => by have := c2.2.2 w hw; omega)
  have z : ∀ id j, id ≠ 8 → id ≠ 192 → id ≠ 194 → M2 id j = N id j := fun id j a b c => by
    rw [e4, c_up_n (fun e => b e.1), r_cp_n c, c_up_n (fun e => a e.1)]
  have zi : ∀ j, j < 1330 → M2 194 j = M 193 j := fun j hj => by
    rw [e4, c_up_n (fun e => by omega), r_cp_t hj, c_up_n (fun e => by omega)]
    exact far _ _ (by omega)
  have eG : r_G M2 = r_G M := funext fun i => (z _ _ (by decide) (by decide) (by decide)).trans (far _ _ (by omega))
  have near : ∀ id j, 21 ≤ id → id ≤ 24 → M2 id j = M id j := fun id j a b => (z _ _ (by omega) (by omega) (by omega)).trans (far _ _ (by omega))
  obtain ⟨q1, q2, q3, q4⟩ := h_covC
  refine ⟨?_, h_C_tr hC h40 (fun i i0 i1 => zi i.toNat (by omega)) (fun j hj => (z _ _ (by decide) (by decide) (by decide)).trans (h_cpx c2 q1 (by omega))) (fun j hj => ⟨(z _ _ (by decide) (by decide) (by decide)).trans (h_cpx c2 q2 (by omega)), (z _ _ (by decide) (by decide) (by decide)).trans (h_cpx c2 q3 (by omega)), (z _ _ (by decide) (by decide) (by decide)).trans (h_cpx c2 q4 (by omega))⟩)⟩
  exact h_C_tr hC h40 (fun i _ _ => congrFun eG i) (fun j _ => near 21 j (by decide) (by decide)) (fun j _ => ⟨near 22 j (by decide) (by decide), near 23 j (by decide) (by decide), near 24 j (by decide) (by decide)⟩)
theorem h_restoreC {r1 r2 : Int} {M M1 M2 : EM} (hfl : M 8 2 = M 192 9) (hB : r_G M 1198 ≤ 40) (hI : r_Gi M 1198 ≤ 40) (hC : h_C M 0 (r_G M)) (hCI : h_C M 68 (r_Gi M)) (k1 : E_C 137 [8] M = some (r1, M1)) (k2 : E_C 256 [192] M1 = some (r2, M2)) : h_C M2 0 (r_G M2) ∧ h_C M2 68 (r_Gi M2) := by
  by_cases z : M 8 2 = 0
  · obtain ⟨e1, e2⟩ := Prod.mk.inj (Option.some.inj (k1.symm.trans (p_restore0 z)))
    subst e2
    rw [r_restore, if_pos (hfl ▸ z)] at k2
    obtain ⟨e3, e4⟩ := Prod.mk.inj (Option.some.inj k2)
    rw [← e4]
    exact ⟨hC, hCI⟩
  · obtain ⟨N, c1, c2⟩ := p_restore z
    obtain ⟨e1, e2⟩ := Prod.mk.inj (Option.some.inj (k1.symm.trans c1))
    subst e2
    have far : ∀ id j, id < 10 ∨ 76 < id → M1 id j = M id j := fun id j h => c2.2.1 _ _ (fun w hw e => by have := c2.2.2 w hw; omega)
    have z2 : ¬ M1 192 9 = 0 := by rw [far _ _ (by omega), ← hfl]; exact z
    rw [r_restore, if_neg z2] at k2
    obtain ⟨e3, e4⟩ := Prod.mk.inj (Option.some.inj k2)
    have w1 : ∀ id j, id ≠ 193 → M2 id j = M1 id j := fun id j h => by rw [← e4]; exact r_cp_n h
    have w2 : ∀ j, j < 1330 → M2 193 j = M 194 j := fun j hj => by rw [← e4, r_cp_t hj]; exact far _ _ (by omega)
    have eg : ∀ i : Int, 0 ≤ i → i < 1330 → r_G M2 i = r_Gi M i := fun i i0 i1 => w2 i.toNat (by omega)
    have ei : r_Gi M2 = r_Gi M := funext fun i => (w1 _ _ (by decide)).trans (far _ _ (by omega))
    obtain ⟨q1, q2, q3, q4⟩ := h_covC
    refine ⟨h_C_tr hCI hI eg (fun j hj => (w1 _ _ (by decide)).trans (h_cpx c2 q1 (by omega))) (fun j hj => ⟨(w1 _ _ (by decide)).trans (h_cpx c2 q2 (by omega)), (w1 _ _ (by decide)).trans (h_cpx c2 q3 (by omega)), (w1 _ _ (by decide)).trans (h_cpx c2 q4 (by omega))⟩), ?_⟩
    have near : ∀ id j, 89 ≤ id → id ≤ 92 → M2 id j = M id j := fun id j a b => (w1 _ _ (by omega)).trans (far _ _ (by omega))
    exact h_C_tr hCI hI (fun i _ _ => congrFun ei i) (fun j _ => near 89 j (by decide) (by decide)) (fun j _ => ⟨near 90 j (by decide) (by decide), near 91 j (by decide) (by decide), near 92 j (by decide) (by decide)⟩)
end
section
/-! set: the two answers; what is told of CELLS stays related -/
def h_t1 (M : EM) : Prop := M 1 0 = 100 ∧ M 1 1 = 50 ∧ M 1 2 = 50 ∧ M 1 3 = 40
def h_z (w : Int) : Int := if w = 0 then 100 else if w = 3 then 40 else 50
theorem h_zb (w : Int) : 0 ≤ h_z w ∧ h_z w ≤ 100 := by
  unfold h_z
  by_cases c0 : w = 0
  · rw [if_pos c0]; decide
  · rw [if_neg c0]
    by_cases c3 : w = 3
    · rw [if_pos c3]; decide
    · rw [if_neg c3]; decide
theorem h_at1 {w : Int} {M : EM} (ht : h_t1 M) (hw : 0 ≤ w ∧ w < 4) : E_C 146 [1, w] M = some (h_z w, M) := by
  obtain ⟨t0, t1, t2, t3⟩ := ht
  have s : (e_sh (1 : Int).toNat) = (100, 4) := by decide +kernel
  rw [c_at 1 w M (Or.inr ⟨by decide, by decide, by rw [s]⟩), s, if_pos ⟨by decide, hw.1, hw.2⟩]
  refine congrArg some (congrArg (·, M) ?_)
  have h9 : w = 0 ∨ w = 1 ∨ w = 2 ∨ w = 3 := by omega
  rcases h9 with rfl | rfl | rfl | rfl
  · exact t0
  · exact t1
  · exact t2
  · exact t3
def h_Sq (w v : Int) : Prop := (0 ≤ w ∧ w < 4) ∧ 0 ≤ v ∧ v ≤ h_z w
theorem h_107s {p w v : Int} {M : EM} : E_C 107 [8, p, w, v] M = e_tv E_C (E_V 107) e_t107_0 [8, p, w, v, 0] M := r_ent (u := 107) (as := [8, p, w, v]) (M := M) (decide_eq_true c_this)
theorem h_107a {p w v i : Int} {M : EM} (ht : h_t1 M) (ip : E_C 149 [8, p] M = some (i, M)) (h : i = 0 ∨ ¬ h_Sq w v) : E_C 107 [8, p, w, v] M = some (-1, M) := by
  rw [h_107s]
  unfold e_t107_0
  by_cases c : i = 0
  · simp [e_tv, e_ev, e_sv, e_b1, e_b2, x_o1, x_o2, ip, c]
  · have h := h.resolve_left c
    rcases x_le 0 w with ⟨c1, c1_n⟩ | ⟨c1, c1_n⟩
    · rcases x_lt w 4 with ⟨c2, c2_n⟩ | ⟨c2, c2_n⟩
      · have t := h_at1 ht ⟨c1, c2⟩
        rcases x_le 0 v with ⟨c3, c3_n⟩ | ⟨c3, c3_n⟩
        · have c4 : h_z w < v := Int.not_le.mp fun e => h ⟨⟨c1, c2⟩, c3, e⟩
          simp [e_tv, e_ev, e_sv, e_b1, e_b2, x_o1, x_o2, ip, c, c1, c1_n, c2, c2_n, c3, c3_n, t, c4]
        · simp [e_tv, e_ev, e_sv, e_b1, e_b2, x_o1, x_o2, ip, c, c1, c1_n, c2, c2_n, c3, c3_n]
      · simp [e_tv, e_ev, e_sv, e_b1, e_b2, x_o1, x_o2, ip, c, c1, c1_n, c2, c2_n]
    · simp [e_tv, e_ev, e_sv, e_b1, e_b2, x_o1, x_o2, ip, c, c1, c1_n]
theorem h_107b {p w v : Int} {M : EM} (ht : h_t1 M) (ip : E_C 149 [8, p] M = some (1, M)) (j : E_C 150 [8, p, 0] M = some (0, M)) (h : h_Sq w v) : E_C 107 [8, p, w, v] M = some (-3, M) := by
  obtain ⟨⟨c1, c2⟩, c3, c4⟩ := h
  have t := h_at1 ht ⟨c1, c2⟩
  have c1' : ¬ w < 0 := by omega
  have c2' : ¬ 4 ≤ w := by omega
  have c3' : ¬ v < 0 := by omega
  have c4' : ¬ h_z w < v := by omega
  rw [h_107s]
  unfold e_t107_0
  simp [e_tv, e_ev, e_sv, e_b1, e_b2, x_o1, x_o2, ip, j, t, c1, c2, c3, c4, c1', c2', c3', c4']
theorem h_107c {p w v : Int} {M : EM} (ht : h_t1 M) (hp : 0 ≤ p ∧ p < 40) (ip : E_C 149 [8, p] M = some (1, M)) (j : E_C 150 [8, p, 0] M = some (1, M)) (h : h_Sq w v) : E_C 107 [8, p, w, v] M = some (M 21 (4 * p + w).toNat, e_up M 21 (4 * p + w).toNat v) := by
  obtain ⟨⟨c1, c2⟩, c3, c4⟩ := h
  have t := h_at1 ht ⟨c1, c2⟩
  have t2 : E_C 146 [21, 4 * p + w] M = some (M 21 (4 * p + w).toNat, M) := p_at (a := 21) (n := 160) (by decide +kernel) ⟨by omega, by omega⟩ M
  have l : ∀ v M, E_C 147 [21, 4 * p + w, v] M = some (0, e_up M 21 (4 * p + w).toNat v) := fun v M => p_layd (a := 21) (n := 160) (by decide +kernel) ⟨by omega, by omega⟩ M
  have w1 : e_w (p * 4) = 4 * p := by rw [Int.mul_comm]; exact a_w_id (by omega) (by omega)
  have w2 : e_w (4 * p + w) = 4 * p + w := a_w_id (by omega) (by omega)
  have c1' : ¬ w < 0 := by omega
  have c2' : ¬ 4 ≤ w := by omega
  have c3' : ¬ v < 0 := by omega
  have c4' : ¬ h_z w < v := by omega
  rw [h_107s]
  unfold e_t107_0
  simp [e_tv, e_ev, e_sv, e_b1, e_b2, x_o1, x_o2, p_704, w_H1, w_C2, ip, j, t, c1, c2, c3, c4, c1', c2', c3', c4', w1, w2, t2, l]
end
