/-! count: what stands on the roof; the reference's three loops -/
theorem h_73l {M : EM} : ∀ (m i : Nat) (c : Int), i + m = 10 → 0 ≤ c → c ≤ i → E_V 73 4 [26, c, (i : Int)] M = some (c + h_cnt (fun j => decide (0 < M 29 j)) m i, M)
  | 0, i, c, hm, h0, h1 => by
    have e : i = 10 := by omega
    subst e
    rw [E_V_eq]
    show e_tv E_C (E_V 73) e_t73_4 [26, c, ((10 : Nat) : Int)] M = _
    unfold e_t73_4
    simp [e_tv, e_ev, e_sv, e_b1, e_b2, x_o1, x_o2, h_cnt]
  | m + 1, i, c, hm, h0, h1 => by
    obtain ⟨z1, z2, z3, z4⟩ := h_cz hm h0 h1
    have t : E_C 146 [29, (i : Int)] M = some (M 29 i, M) := w_atN (a := 29) (i := (i : Int)) (n := 10) (by decide +kernel) (j := i) rfl (by omega) M
    have q : (i : Int) < 10 := by omega
    have w1 : e_w ((i : Int) + 1) = ((i + 1 : Nat) : Int) := a_w_id (by omega) (by omega)
    have w2 : e_w (c + 1) = c + 1 := a_w_id (by omega) (by omega)
    have s27 : ∀ c, E_V 73 24 [26, c, (i : Int)] M = E_V 73 4 [26, c, ((i + 1 : Nat) : Int)] M := fun c => by
      rw [E_V_eq]
      show e_tv E_C (E_V 73) e_t73_24 [26, c, (i : Int)] M = _
      unfold e_t73_24
      simp [e_tv, e_ev, e_sv, e_b1, e_b2, x_o1, x_o2, w1]
    generalize hx : M 29 i = x at t
    rcases x_lt 0 x with ⟨e, e'⟩ | ⟨e, e'⟩
    · have s4 : E_V 73 4 [26, c, (i : Int)] M = E_V 73 24 [26, c + 1, (i : Int)] M := by
        rw [E_V_eq]
        show e_tv E_C (E_V 73) e_t73_4 [26, c, (i : Int)] M = _
        unfold e_t73_4
        simp [e_tv, e_ev, e_sv, e_b1, e_b2, x_o1, x_o2, q, p_386, t, e, e', w2]
      rw [s4, s27, h_73l m (i + 1) (c + 1) z1 z2 z3]
      refine congrArg some (congrArg (·, M) ?_)
      show _ = c + ((bif decide (0 < M 29 i) then 1 else 0) + _)
      rw [hx, decide_eq_true e]
      exact Int.add_assoc _ _ _
    · have s4 : E_V 73 4 [26, c, (i : Int)] M = E_V 73 24 [26, c, (i : Int)] M := by
        rw [E_V_eq]
        show e_tv E_C (E_V 73) e_t73_4 [26, c, (i : Int)] M = _
        unfold e_t73_4
        simp [e_tv, e_ev, e_sv, e_b1, e_b2, x_o1, x_o2, q, p_386, t, e, e']
      rw [s4, s27, h_73l m (i + 1) c z1 h0 z4]
      refine congrArg some (congrArg (·, M) ?_)
      show _ = c + ((bif decide (0 < M 29 i) then 1 else 0) + _)
      rw [hx, decide_eq_false e]
      exact congrArg (c + ·) (Int.zero_add _).symm
theorem h_73 {M : EM} : E_C 73 [26] M = some (h_cnt (fun j => decide (0 < M 29 j)) 10 0, M) := by
  have l := h_73l (M := M) 10 0 0 (by omega) (by decide) (by decide)
  rw [Int.zero_add] at l
  rw [r_ent (show e_rok 73 [26] = true by decide +kernel)]
  show e_tv E_C (E_V 73) e_t73_0 [26, 0, 0] M = _
  unfold e_t73_0
  have l' : E_V 73 4 [26, 0, 0] M = _ := l
  simp [e_tv, e_ev, e_sv, e_b1, e_b2, x_o1, x_o2, l']
theorem h_257a {w : Int} {n : Nat} {M : EM} (hw : 1 ≤ w ∧ w ≤ 4) (hn : r_G M 1198 = n) (h40 : n ≤ 40) : ∀ (m i : Nat) (c : Int), i + m = n → 0 ≤ c → c ≤ i → E_V 257 63 [192, w, c, (i : Int)] M = some (c + h_cnt (fun j => decide (r_G M (28 * (j : Int)) = w - 1)) m i, M)
  | 0, i, c, hm, h0, h1 => by
    have e : i = n := by omega
    subst e
    have l : e_op 60 [193, 1198] M = some (i : Int) := (r_rd (by decide) (by decide)).trans (congrArg some hn)
    rw [E_V_eq]
    show e_tv E_C (E_V 257) e_t257_63 [192, w, c, (i : Int)] M = _
    unfold e_t257_63
    simp [e_tv, e_ev, e_sv, e_b1, e_b2, x_o1, x_o2, r_O0, l, h_cnt]
  | m + 1, i, c, hm, h0, h1 => by
    obtain ⟨z1, z2, z3, z4⟩ := h_cz hm h0 h1
    have l : e_op 60 [193, 1198] M = some (n : Int) := (r_rd (by decide) (by decide)).trans (congrArg some hn)
    have t : E_C 170 [192, (i : Int)] M = some (r_G M (28 * (i : Int)), M) := r_kind ⟨by omega, by omega⟩
    have q : (i : Int) < (n : Int) := by omega
    have w1 : e_w ((i : Int) + 1) = ((i + 1 : Nat) : Int) := a_w_id (by omega) (by omega)
    have w2 : e_w (c + 1) = c + 1 := a_w_id (by omega) (by omega)
    have w4 : e_w c = c := a_w_id (by omega) (by omega)
    have w3 : e_w (w - 1) = w - 1 := a_w_id (by omega) (by omega)
    by_cases e : r_G M (28 * (i : Int)) = w - 1
    · have s4 : E_V 257 63 [192, w, c, (i : Int)] M = E_V 257 63 [192, w, c + 1, ((i + 1 : Nat) : Int)] M := by
        rw [E_V_eq]
        show e_tv E_C (E_V 257) e_t257_63 [192, w, c, (i : Int)] M = _
        unfold e_t257_63
        simp [e_tv, e_ev, e_sv, e_b1, e_b2, x_o1, x_o2, r_O0, l, q, t, e, w1, w2, w3]
      rw [s4, h_257a hw hn h40 m (i + 1) (c + 1) z1 z2 z3]
      refine congrArg some (congrArg (·, M) ?_)
      show _ = c + ((bif decide (r_G M (28 * (i : Int)) = w - 1) then 1 else 0) + _)
      rw [decide_eq_true e]
      exact Int.add_assoc _ _ _
    · have s4 : E_V 257 63 [192, w, c, (i : Int)] M = E_V 257 63 [192, w, c, ((i + 1 : Nat) : Int)] M := by
        rw [E_V_eq]
        show e_tv E_C (E_V 257) e_t257_63 [192, w, c, (i : Int)] M = _
        unfold e_t257_63
        simp [e_tv, e_ev, e_sv, e_b1, e_b2, x_o1, x_o2, r_O0, l, q, t, e, w1, w4, w3]
      rw [s4, h_257a hw hn h40 m (i + 1) c z1 h0 z4]
      refine congrArg some (congrArg (·, M) ?_)
      show _ = c + ((bif decide (r_G M (28 * (i : Int)) = w - 1) then 1 else 0) + _)
      rw [decide_eq_false e]
      exact congrArg (c + ·) (Int.zero_add _).symm
theorem h_257c {w : Int} {M : EM} : ∀ (m i : Nat) (c : Int), i + m = 10 → 0 ≤ c → c ≤ i → E_V 257 158 [192, w, c, (i : Int)] M = some (c + h_cnt (fun j => decide (0 < r_G M (1120 + 3 * (j : Int) + 2))) m i, M)
  | 0, i, c, hm, h0, h1 => by
    have e : i = 10 := by omega
    subst e
    rw [E_V_eq]
    show e_tv E_C (E_V 257) e_t257_158 [192, w, c, ((10 : Nat) : Int)] M = _
    unfold e_t257_158
    simp [e_tv, e_ev, e_sv, e_b1, e_b2, x_o1, x_o2, h_cnt]
  | m + 1, i, c, hm, h0, h1 => by
    obtain ⟨z1, z2, z3, z4⟩ := h_cz hm h0 h1
    have q : (i : Int) < 10 := by omega
    have w1 : e_w ((i : Int) + 1) = ((i + 1 : Nat) : Int) := a_w_id (by omega) (by omega)
    have w2 : e_w (c + 1) = c + 1 := a_w_id (by omega) (by omega)
    have w3 : e_w c = c := a_w_id (by omega) (by omega)
    have w4 : e_w (3 * (i : Int)) = 3 * (i : Int) := a_w_id (by omega) (by omega)
    have w5 : e_w (1120 + 3 * (i : Int)) = 1120 + 3 * (i : Int) := a_w_id (by omega) (by omega)
    have w6 : e_w (1120 + 3 * (i : Int) + 2) = 1120 + 3 * (i : Int) + 2 := a_w_id (by omega) (by omega)
    have l2 : e_op 60 [193, 1120 + 3 * (i : Int) + 2] M = some (r_G M (1120 + 3 * (i : Int) + 2)) := r_rd (by omega) (by omega)
    generalize hx : r_G M (1120 + 3 * (i : Int) + 2) = x at l2
    rcases x_lt 0 x with ⟨e, e'⟩ | ⟨e, e'⟩
    · have s4 : E_V 257 158 [192, w, c, (i : Int)] M = E_V 257 158 [192, w, c + 1, ((i + 1 : Nat) : Int)] M := by
        rw [E_V_eq]
        show e_tv E_C (E_V 257) e_t257_158 [192, w, c, (i : Int)] M = _
        unfold e_t257_158
        simp [e_tv, e_ev, e_sv, e_b1, e_b2, x_o1, x_o2, r_O0, q, e, e', w1, w2, w4, w5, w6, l2]
      rw [s4, h_257c m (i + 1) (c + 1) z1 z2 z3]
      refine congrArg some (congrArg (·, M) ?_)
      show _ = c + ((bif decide (0 < r_G M (1120 + 3 * (i : Int) + 2)) then 1 else 0) + _)
      rw [hx, decide_eq_true e]
      exact Int.add_assoc _ _ _
    · have s4 : E_V 257 158 [192, w, c, (i : Int)] M = E_V 257 158 [192, w, c, ((i + 1 : Nat) : Int)] M := by
        rw [E_V_eq]
        show e_tv E_C (E_V 257) e_t257_158 [192, w, c, (i : Int)] M = _
        unfold e_t257_158
        simp [e_tv, e_ev, e_sv, e_b1, e_b2, x_o1, x_o2, r_O0, q, e, e', w1, w3, w4, w5, w6, l2]
      rw [s4, h_257c m (i + 1) c z1 h0 z4]
      refine congrArg some (congrArg (·, M) ?_)
      show _ = c + ((bif decide (0 < r_G M (1120 + 3 * (i : Int) + 2)) then 1 else 0) + _)
      rw [hx, decide_eq_false e]
      exact congrArg (c + ·) (Int.zero_add _).symm
