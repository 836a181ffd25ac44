/-! the class makes a CELL: exactly -/
def w_ri (M : EM) (p j : Nat) : Prop := M 19 (6 * p + j) < M 19 (6 * p + (j + 1)) ∧ M 20 (6 * p + (j + 1)) < M 20 (6 * p + j)
theorem w_36l {p n : Nat} {M : EM} (hp : p < 40) (hn : n ≤ 6) : ∀ (m i : Nat), i + 1 + m = n → ∃ r, E_V 36 67 [18, (p : Int), (n : Int), 6 * (p : Int), 6 * (p : Int) + (n : Int) - 1, ((6 * p + (i + 1) : Nat) : Int)] M = some (r, M) ∧ ((r = 1 ∧ ∀ j, i ≤ j → j + 1 < n → w_ri M p j) ∨ (r = 0 ∧ ∃ j, i ≤ j ∧ j + 1 < n ∧ ¬ w_ri M p j)) := by
  intro m
  induction m with
  | zero =>
    intro i hm
    refine ⟨1, ?_, Or.inl ⟨rfl, fun j h1 h2 => by omega⟩⟩
    have q : ¬ (((6 * p + (i + 1) : Nat) : Int) ≤ 6 * (p : Int) + (n : Int) - 1) := by omega
    generalize ((6 * p + (i + 1) : Nat) : Int) = x at q ⊢
    rw [E_V_eq]
    show e_tv E_C (E_V 36) e_t36_67 [18, (p : Int), (n : Int), 6 * (p : Int), 6 * (p : Int) + (n : Int) - 1, x] M = _
    unfold e_t36_67
    simp [e_tv, e_ev, e_sv, e_b1, e_b2, x_o1, x_o2, q]
  | succ m ih =>
    intro i hm
    obtain ⟨r, k1, c1⟩ := ih (i + 1) (by omega)
    have q : ((6 * p + (i + 1) : Nat) : Int) ≤ 6 * (p : Int) + (n : Int) - 1 := by omega
    have t1 := w_atN (a := 19) (i := ((6 * p + (i + 1) : Nat) : Int)) (n := 240) (by decide +kernel) (j := 6 * p + (i + 1)) rfl (by omega) M
    have t2 := w_atN (a := 20) (i := ((6 * p + (i + 1) : Nat) : Int)) (n := 240) (by decide +kernel) (j := 6 * p + (i + 1)) rfl (by omega) M
    have t3 := w_atN (a := 19) (i := ((6 * p + i : Nat) : Int)) (n := 240) (by decide +kernel) (j := 6 * p + i) rfl (by omega) M
    have t4 := w_atN (a := 20) (i := ((6 * p + i : Nat) : Int)) (n := 240) (by decide +kernel) (j := 6 * p + i) rfl (by omega) M
    have w1 : e_w (((6 * p + (i + 1) : Nat) : Int) - 1) = ((6 * p + i : Nat) : Int) := (a_w_id (by omega) (by omega)).trans (by omega)
    have w2 : e_w (((6 * p + (i + 1) : Nat) : Int) + 1) = ((6 * p + (i + 1 + 1) : Nat) : Int) := (a_w_id (by omega) (by omega)).trans (by omega)
    generalize ((6 * p + (i + 1) : Nat) : Int) = x at q t1 t2 w1 w2 ⊢
    generalize ((6 * p + (i + 1 + 1) : Nat) : Int) = y at w2 k1
    generalize ((6 * p + i : Nat) : Int) = z at w1 t3 t4
    by_cases c : w_ri M p i
    · refine ⟨r, ?_, ?_⟩
      · obtain ⟨d1, d2⟩ := c
        have d2_n : ¬ (M 20 (6 * p + i) ≤ M 20 (6 * p + (i + 1))) := by omega
        rw [E_V_eq]
        show e_tv E_C (E_V 36) e_t36_67 [18, (p : Int), (n : Int), 6 * (p : Int), 6 * (p : Int) + (n : Int) - 1, x] M = _
        unfold e_t36_67
        simp [e_tv, e_ev, e_sv, e_b1, e_b2, x_o1, x_o2, q, w_C0, w_C1, w1, w2, t1, t2, t3, t4, d1, d2, d2_n, k1]
      · rcases c1 with ⟨e1, e2⟩ | ⟨e1, j, j1, j2, j3⟩
        · exact Or.inl ⟨e1, fun j h1 h2 => by
            by_cases e : j = i
            · rw [e]; exact c
            · exact e2 j (by omega) h2⟩
        · exact Or.inr ⟨e1, j, by omega, j2, j3⟩
    · refine ⟨0, ?_, Or.inr ⟨rfl, i, Nat.le_refl _, by omega, c⟩⟩
      rcases x_lt (M 19 (6 * p + i)) (M 19 (6 * p + (i + 1))) with ⟨d1, d1_n⟩ | ⟨d1, d1_n⟩
      · have d2 : M 20 (6 * p + i) ≤ M 20 (6 * p + (i + 1)) := by
          rcases Int.lt_or_le (M 20 (6 * p + (i + 1))) (M 20 (6 * p + i)) with h | h
          · exact absurd ⟨d1, h⟩ c
          · exact h
        rw [E_V_eq]
        show e_tv E_C (E_V 36) e_t36_67 [18, (p : Int), (n : Int), 6 * (p : Int), 6 * (p : Int) + (n : Int) - 1, x] M = _
        unfold e_t36_67
        simp [e_tv, e_ev, e_sv, e_b1, e_b2, x_o1, x_o2, q, w_C0, w_C1, w1, t1, t2, t3, t4, d1, d1_n, d2]
      · rw [E_V_eq]
        show e_tv E_C (E_V 36) e_t36_67 [18, (p : Int), (n : Int), 6 * (p : Int), 6 * (p : Int) + (n : Int) - 1, x] M = _
        unfold e_t36_67
        simp [e_tv, e_ev, e_sv, e_b1, e_b2, x_o1, x_o2, q, w_C0, w_C1, w1, t1, t2, t3, t4, d1, d1_n]
def w_cv (M : EM) (p m : Nat) : Prop := M 19 (6 * p) = 0 ∧ M 19 (6 * p + m) ≤ 60 ∧ M 20 (6 * p) ≠ 0 ∧ M 20 (6 * p + m) = 0 ∧ ∀ j, j < m → w_ri M p j
theorem w_36 {p m : Nat} {M : EM} (hp : p < 40) (hm : 1 ≤ m ∧ m ≤ 5) : (w_cv M p m → E_C 36 [18, (p : Int), ((m + 1 : Nat) : Int)] M = some (1, M)) ∧ (¬ w_cv M p m → E_C 36 [18, (p : Int), ((m + 1 : Nat) : Int)] M = some (0, M)) := by
  have s0 : E_C 36 [18, (p : Int), ((m + 1 : Nat) : Int)] M = e_tv E_C (E_V 36) e_t36_0 [18, (p : Int), ((m + 1 : Nat) : Int), 0, 0, 0] M := r_ent (u := 36) (as := [18, (p : Int), ((m + 1 : Nat) : Int)]) (M := M) (decide_eq_true (show e_isO 1 18 by decide +kernel))
  obtain ⟨r, k1, c1⟩ := w_36l (M := M) hp (n := m + 1) (by omega) m 0 (by omega)
  have w0 : e_w ((p : Int) * 6) = 6 * (p : Int) := (a_w_id (by omega) (by omega)).trans (by omega)
  have w1 : e_w (6 * (p : Int) + ((m + 1 : Nat) : Int)) = 6 * (p : Int) + ((m + 1 : Nat) : Int) := a_w_id (by omega) (by omega)
  obtain ⟨l, hl⟩ : ∃ l, 6 * (p : Int) + ((m + 1 : Nat) : Int) - 1 = l := ⟨_, rfl⟩
  have w2 : e_w (6 * (p : Int) + ((m + 1 : Nat) : Int) - 1) = l := (a_w_id (by omega) (by omega)).trans hl
  rw [hl] at k1
  have w3 : e_w (6 * (p : Int) + 1) = ((6 * p + (0 + 1) : Nat) : Int) := (a_w_id (by omega) (by omega)).trans (by omega)
  have t1 := w_atN (a := 19) (i := 6 * (p : Int)) (n := 240) (by decide +kernel) (j := 6 * p) (by omega) (by omega) M
  have t2 := w_atN (a := 20) (i := 6 * (p : Int)) (n := 240) (by decide +kernel) (j := 6 * p) (by omega) (by omega) M
  have t3 := w_atN (a := 19) (i := l) (n := 240) (by decide +kernel) (j := 6 * p + m) (by omega) (by omega) M
  have t4 := w_atN (a := 20) (i := l) (n := 240) (by decide +kernel) (j := 6 * p + m) (by omega) (by omega) M
  rw [s0]
  unfold e_t36_0
  generalize ((6 * p + (0 + 1) : Nat) : Int) = y at w3 k1
  clear hl
  generalize ((m + 1 : Nat) : Int) = n at w1 w2 k1 ⊢
  unfold w_cv
  by_cases a1 : M 19 (6 * p) = 0
  · rcases x_le (M 19 (6 * p + m)) 60 with ⟨a2, a2_n⟩ | ⟨a2, a2_n⟩
    · by_cases a3 : M 20 (6 * p) = 0
      · refine ⟨fun h => absurd a3 h.2.2.1, fun _ => ?_⟩
        simp [e_tv, e_ev, e_sv, e_b1, e_b2, x_o1, x_o2, w_C0, w_C1, w0, w1, w2, t1, t2, t3, t4, a1, a2, a2_n, a3]
      · by_cases a4 : M 20 (6 * p + m) = 0
        · rcases c1 with ⟨e1, e2⟩ | ⟨e1, j, j1, j2, j3⟩
          · refine ⟨fun _ => ?_, fun h => absurd ⟨a1, a2, a3, a4, fun j hj => e2 j (Nat.zero_le _) (by omega)⟩ h⟩
            subst e1
            simp [e_tv, e_ev, e_sv, e_b1, e_b2, x_o1, x_o2, w_C0, w_C1, w0, w1, w2, w3, t1, t2, t3, t4, a1, a2, a2_n, a3, a4, k1]
          · refine ⟨fun h => absurd (h.2.2.2.2 j (by omega)) j3, fun _ => ?_⟩
            subst e1
            simp [e_tv, e_ev, e_sv, e_b1, e_b2, x_o1, x_o2, w_C0, w_C1, w0, w1, w2, w3, t1, t2, t3, t4, a1, a2, a2_n, a3, a4, k1]
        · refine ⟨fun h => absurd h.2.2.2.1 a4, fun _ => ?_⟩
          simp [e_tv, e_ev, e_sv, e_b1, e_b2, x_o1, x_o2, w_C0, w_C1, w0, w1, w2, t1, t2, t3, t4, a1, a2, a2_n, a3, a4]
    · refine ⟨fun h => absurd h.2.1 a2, fun _ => ?_⟩
      simp [e_tv, e_ev, e_sv, e_b1, e_b2, x_o1, x_o2, w_C0, w_C1, w0, w1, w2, t1, t2, t3, t4, a1, a2, a2_n]
  · refine ⟨fun h => absurd h.1 a1, fun _ => ?_⟩
    simp [e_tv, e_ev, e_sv, e_b1, e_b2, x_o1, x_o2, w_C0, w_C1, w0, w1, w2, t1, t2, t3, t4, a1]
