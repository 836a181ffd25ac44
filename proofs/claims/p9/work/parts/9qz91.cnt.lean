/-! count: class and reference count alike -/
def h_cnt (f : Nat → Bool) : Nat → Nat → Int
  | 0, _ => 0
  | m + 1, i => (bif f i then 1 else 0) + h_cnt f m (i + 1)
theorem h_cnt_b {f : Nat → Bool} : ∀ (m i : Nat), 0 ≤ h_cnt f m i ∧ h_cnt f m i ≤ m
  | 0, _ => ⟨Int.le_refl _, Int.le_refl _⟩
  | m + 1, i => by
    have := h_cnt_b (f := f) m (i + 1)
    unfold h_cnt
    cases f i <;> simp only [cond_true, cond_false] <;> omega
theorem h_cnt_cg {f g : Nat → Bool} : ∀ (m i : Nat), (∀ j, i ≤ j → j < i + m → f j = g j) → h_cnt f m i = h_cnt g m i
  | 0, _, _ => rfl
  | m + 1, i, h => by
    unfold h_cnt
    rw [h i (Nat.le_refl _) (by omega), h_cnt_cg m (i + 1) (fun j h1 h2 => h j (by omega) (by omega))]
theorem h_cz {m i n : Nat} {c : Int} (hm : i + (m + 1) = n) (h0 : 0 ≤ c) (h1 : c ≤ i) : (i + 1) + m = n ∧ 0 ≤ c + 1 ∧ c + 1 ≤ ((i + 1 : Nat) : Int) ∧ c ≤ ((i + 1 : Nat) : Int) := ⟨by omega, by omega, by omega, by omega⟩
theorem h_56l {k : Int} {n : Nat} {M : EM} (hn : M 10 0 = n) (h40 : n ≤ 40) : ∀ (m i : Nat) (c : Int), i + m = n → 0 ≤ c → c ≤ i → E_V 56 4 [10, k, c, (i : Int)] M = some (c + h_cnt (fun j => decide (M 11 j = k)) m i, M)
  | 0, i, c, hm, h0, h1 => by
    have e : i = n := by omega
    subst e
    have f := w_P0 M
    rw [hn] at f
    rw [E_V_eq]
    show e_tv E_C (E_V 56) e_t56_4 [10, k, c, (i : Int)] M = _
    unfold e_t56_4
    simp [e_tv, e_ev, e_sv, e_b1, e_b2, x_o1, x_o2, f, h_cnt]
  | m + 1, i, c, hm, h0, h1 => by
    obtain ⟨z1, z2, z3, z4⟩ := h_cz hm h0 h1
    have f := w_P0 M
    rw [hn] at f
    have t : E_C 146 [11, (i : Int)] M = some (M 11 i, M) := w_atN (a := 11) (i := (i : Int)) (n := 40) (by decide +kernel) (j := i) rfl (by omega) M
    have q : (i : Int) < (n : Int) := by omega
    have w1 : e_w ((i : Int) + 1) = ((i + 1 : Nat) : Int) := a_w_id (by omega) (by omega)
    have w2 : e_w (c + 1) = c + 1 := a_w_id (by omega) (by omega)
    have s27 : ∀ c, E_V 56 27 [10, k, c, (i : Int)] M = E_V 56 4 [10, k, c, ((i + 1 : Nat) : Int)] M := fun c => by
      rw [E_V_eq]
      show e_tv E_C (E_V 56) e_t56_27 [10, k, c, (i : Int)] M = _
      unfold e_t56_27
      simp [e_tv, e_ev, e_sv, e_b1, e_b2, x_o1, x_o2, w1]
    by_cases e : M 11 i = k
    · have s4 : E_V 56 4 [10, k, c, (i : Int)] M = E_V 56 27 [10, k, c + 1, (i : Int)] M := by
        rw [E_V_eq]
        show e_tv E_C (E_V 56) e_t56_4 [10, k, c, (i : Int)] M = _
        unfold e_t56_4
        simp [e_tv, e_ev, e_sv, e_b1, e_b2, x_o1, x_o2, f, q, w_P1, t, e, w2]
      rw [s4, s27, h_56l hn h40 m (i + 1) (c + 1) z1 z2 z3]
      refine congrArg some (congrArg (·, M) ?_)
      show _ = c + ((bif decide (M 11 i = k) then 1 else 0) + _)
      rw [decide_eq_true e]
      exact Int.add_assoc _ _ _
    · have s4 : E_V 56 4 [10, k, c, (i : Int)] M = E_V 56 27 [10, k, c, (i : Int)] M := by
        rw [E_V_eq]
        show e_tv E_C (E_V 56) e_t56_4 [10, k, c, (i : Int)] M = _
        unfold e_t56_4
        simp [e_tv, e_ev, e_sv, e_b1, e_b2, x_o1, x_o2, f, q, w_P1, t, e]
      rw [s4, s27, h_56l hn h40 m (i + 1) c z1 h0 z4]
      refine congrArg some (congrArg (·, M) ?_)
      show _ = c + ((bif decide (M 11 i = k) then 1 else 0) + _)
      rw [decide_eq_false e]
      exact congrArg (c + ·) (Int.zero_add _).symm
theorem h_56 {k : Int} {n : Nat} {M : EM} (hn : M 10 0 = n) (h40 : n ≤ 40) : E_C 56 [10, k] M = some (h_cnt (fun j => decide (M 11 j = k)) n 0, M) := by
  have l := h_56l (k := k) hn h40 n 0 0 (by omega) (by decide) (by decide)
  rw [Int.zero_add] at l
  rw [r_ent (show e_rok 56 [10, k] = true from decide_eq_true (show e_isO 4 10 by decide +kernel))]
  show e_tv E_C (E_V 56) e_t56_0 [10, k, 0, 0] M = _
  unfold e_t56_0
  have l' : E_V 56 4 [10, k, 0, 0] M = some (h_cnt (fun j => decide (M 11 j = k)) n 0, M) := l
  simp [e_tv, e_ev, e_sv, e_b1, e_b2, x_o1, x_o2, l']
theorem h_39l {n : Nat} {M : EM} (hn : M 10 0 = n) (h40 : n ≤ 40) : ∀ (m i : Nat) (c : Int), i + m = n → 0 ≤ c → c ≤ i → E_V 39 4 [18, 10, c, (i : Int)] M = some (c + h_cnt (fun j => decide (M 11 j = 0) && decide (M 22 j ≠ 0)) m i, M)
  | 0, i, c, hm, h0, h1 => by
    have e : i = n := by omega
    subst e
    have f := w_P0 M
    rw [hn] at f
    rw [E_V_eq]
    show e_tv E_C (E_V 39) e_t39_4 [18, 10, c, (i : Int)] M = _
    unfold e_t39_4
    simp [e_tv, e_ev, e_sv, e_b1, e_b2, x_o1, x_o2, f, h_cnt]
  | m + 1, i, c, hm, h0, h1 => by
    obtain ⟨z1, z2, z3, z4⟩ := h_cz hm h0 h1
    have f := w_P0 M
    rw [hn] at f
    have t : E_C 146 [11, (i : Int)] M = some (M 11 i, M) := w_atN (a := 11) (i := (i : Int)) (n := 40) (by decide +kernel) (j := i) rfl (by omega) M
    have t2 : E_C 146 [22, (i : Int)] M = some (M 22 i, M) := w_atN (a := 22) (i := (i : Int)) (n := 40) (by decide +kernel) (j := i) rfl (by omega) M
    have q : (i : Int) < (n : Int) := by omega
    have w1 : e_w ((i : Int) + 1) = ((i + 1 : Nat) : Int) := a_w_id (by omega) (by omega)
    have w2 : e_w (c + 1) = c + 1 := a_w_id (by omega) (by omega)
    have s27 : ∀ c, E_V 39 37 [18, 10, c, (i : Int)] M = E_V 39 4 [18, 10, c, ((i + 1 : Nat) : Int)] M := fun c => by
      rw [E_V_eq]
      show e_tv E_C (E_V 39) e_t39_37 [18, 10, c, (i : Int)] M = _
      unfold e_t39_37
      simp [e_tv, e_ev, e_sv, e_b1, e_b2, x_o1, x_o2, w1]
    have no : (decide (M 11 i = 0) && decide (M 22 i ≠ 0)) = false → E_V 39 4 [18, 10, c, (i : Int)] M = E_V 39 37 [18, 10, c, (i : Int)] M → E_V 39 4 [18, 10, c, (i : Int)] M = some (c + h_cnt (fun j => decide (M 11 j = 0) && decide (M 22 j ≠ 0)) (m + 1) i, M) := fun e s4 => by
      rw [s4, s27, h_39l hn h40 m (i + 1) c z1 h0 z4]
      refine congrArg some (congrArg (·, M) ?_)
      show _ = c + ((bif (decide (M 11 i = 0) && decide (M 22 i ≠ 0)) then 1 else 0) + _)
      rw [e]
      exact congrArg (c + ·) (Int.zero_add _).symm
    by_cases e : M 11 i = 0
    · by_cases e2 : M 22 i = 0
      · refine no (by rw [decide_eq_false (show ¬ M 22 i ≠ 0 from fun h => h e2), Bool.and_false]) ?_
        rw [E_V_eq]
        show e_tv E_C (E_V 39) e_t39_4 [18, 10, c, (i : Int)] M = _
        unfold e_t39_4
        simp [e_tv, e_ev, e_sv, e_b1, e_b2, x_o1, x_o2, f, q, w_P1, w_C3, t, t2, e, e2]
      · have s4 : E_V 39 4 [18, 10, c, (i : Int)] M = E_V 39 37 [18, 10, c + 1, (i : Int)] M := by
          rw [E_V_eq]
          show e_tv E_C (E_V 39) e_t39_4 [18, 10, c, (i : Int)] M = _
          unfold e_t39_4
          simp [e_tv, e_ev, e_sv, e_b1, e_b2, x_o1, x_o2, f, q, w_P1, w_C3, t, t2, e, e2, w2]
        rw [s4, s27, h_39l hn h40 m (i + 1) (c + 1) z1 z2 z3]
        refine congrArg some (congrArg (·, M) ?_)
        show _ = c + ((bif (decide (M 11 i = 0) && decide (M 22 i ≠ 0)) then 1 else 0) + _)
        rw [decide_eq_true e, decide_eq_true e2, Bool.and_true]
        exact Int.add_assoc _ _ _
    · refine no (by rw [decide_eq_false e, Bool.false_and]) ?_
      rw [E_V_eq]
      show e_tv E_C (E_V 39) e_t39_4 [18, 10, c, (i : Int)] M = _
      unfold e_t39_4
      simp [e_tv, e_ev, e_sv, e_b1, e_b2, x_o1, x_o2, f, q, w_P1, t, e]
theorem h_39 {n : Nat} {M : EM} (hn : M 10 0 = n) (h40 : n ≤ 40) : E_C 39 [18, 10] M = some (h_cnt (fun j => decide (M 11 j = 0) && decide (M 22 j ≠ 0)) n 0, M) := by
  have l := h_39l hn h40 n 0 0 (by omega) (by decide) (by decide)
  rw [Int.zero_add] at l
  rw [r_ent (show e_rok 39 [18, 10] = true by decide +kernel)]
  show e_tv E_C (E_V 39) e_t39_0 [18, 10, 0, 0] M = _
  unfold e_t39_0
  have l' : E_V 39 4 [18, 10, 0, 0] M = _ := l
  simp [e_tv, e_ev, e_sv, e_b1, e_b2, x_o1, x_o2, l']
