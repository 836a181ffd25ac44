/-! count: the reference's DEAD -/
theorem h_bz {i : Nat} {c : Int} (hi : i < 40) (h0 : 0 ≤ c) (h1 : c ≤ i) : e_w ((i : Int) + 1) = ((i + 1 : Nat) : Int) ∧ e_w (c + 1) = c + 1 ∧ e_w c = c ∧ e_w (28 * (i : Int)) = 28 * (i : Int) ∧ e_w (28 * (i : Int) + 19) = 28 * (i : Int) + 19 := ⟨a_w_id (by omega) (by omega), a_w_id (by omega) (by omega), a_w_id (by omega) (by omega), a_w_id (by omega) (by omega), a_w_id (by omega) (by omega)⟩
/-- a step of the loop, values as variables -/
theorem h_257y {w c c' i i' a d : Int} {n : Int} {M : EM} (l : e_op 60 [193, 1198] M = some n) (q : i < n) (t : E_C 170 [192, i] M = some (0, M)) (w1 : e_w (i + 1) = i') (w2 : e_w (c + 1) = c') (w5 : e_w (28 * i) = a) (w6 : e_w (a + 19) = d) (l2 : e_op 60 [193, d] M = some 1) : E_V 257 104 [192, w, c, i] M = E_V 257 104 [192, w, c', i'] M := by
  rw [E_V_eq]
  show e_tv E_C (E_V 257) e_t257_104 [192, w, c, i] M = _
  unfold e_t257_104
  simp [e_tv, e_ev, e_sv, e_b1, e_b2, x_o1, x_o2, r_O0, l, q, t, w1, w2, w5, w6, l2]
theorem h_257z {w c i i' a d x : Int} {n : Int} {M : EM} (l : e_op 60 [193, 1198] M = some n) (q : i < n) (t : E_C 170 [192, i] M = some (0, M)) (w1 : e_w (i + 1) = i') (w4 : e_w c = c) (w5 : e_w (28 * i) = a) (w6 : e_w (a + 19) = d) (l2 : e_op 60 [193, d] M = some x) (hx : x ≠ 1) : E_V 257 104 [192, w, c, i] M = E_V 257 104 [192, w, c, i'] M := by
  rw [E_V_eq]
  show e_tv E_C (E_V 257) e_t257_104 [192, w, c, i] M = _
  unfold e_t257_104
  simp [e_tv, e_ev, e_sv, e_b1, e_b2, x_o1, x_o2, r_O0, l, q, t, w1, w4, w5, w6, l2, hx]
theorem h_257n {w c i i' k : Int} {n : Int} {M : EM} (l : e_op 60 [193, 1198] M = some n) (q : i < n) (t : E_C 170 [192, i] M = some (k, M)) (hk : k ≠ 0) (w1 : e_w (i + 1) = i') (w4 : e_w c = c) : E_V 257 104 [192, w, c, i] M = E_V 257 104 [192, w, c, i'] M := by
  rw [E_V_eq]
  show e_tv E_C (E_V 257) e_t257_104 [192, w, c, i] M = _
  unfold e_t257_104
  simp [e_tv, e_ev, e_sv, e_b1, e_b2, x_o1, x_o2, r_O0, l, q, t, hk, w1, w4]
theorem h_257e {w c i : Int} {M : EM} (l : e_op 60 [193, 1198] M = some i) : E_V 257 104 [192, w, c, i] M = some (c, M) := by
  rw [E_V_eq]
  show e_tv E_C (E_V 257) e_t257_104 [192, w, c, i] M = _
  unfold e_t257_104
  simp [e_tv, e_ev, e_sv, e_b1, e_b2, x_o1, x_o2, r_O0, l]
def h_dd (g : Int → Int) (j : Nat) : Bool := decide (g (28 * (j : Int)) = 0) && decide (g (28 * (j : Int) + 19) = 1)
theorem h_257b {w : Int} {n : Nat} {M : EM} (hn : r_G M 1198 = n) (h40 : n ≤ 40) : ∀ (m i : Nat) (c : Int), i + m = n → 0 ≤ c → c ≤ i → E_V 257 104 [192, w, c, (i : Int)] M = some (c + h_cnt (h_dd (r_G M)) m i, M) := by
  have l : e_op 60 [193, 1198] M = some (n : Int) := (r_rd (by decide) (by decide)).trans (congrArg some hn)
  intro m
  induction m with
  | zero =>
    intro i c hm h0 h1
    have e : i = n := by omega
    subst e
    rw [h_257e l]
    exact congrArg some (congrArg (·, M) (Int.add_zero c).symm)
  | succ m ih =>
    intro i c hm h0 h1
    obtain ⟨z1, z2, z3, z4⟩ := h_cz hm h0 h1
    have hi : i < 40 := by omega
    have q : (i : Int) < (n : Int) := by omega
    have t : E_C 170 [192, (i : Int)] M = some (r_G M (28 * (i : Int)), M) := r_kind ⟨by omega, by omega⟩
    have l2 : e_op 60 [193, 28 * (i : Int) + 19] M = some (r_G M (28 * (i : Int) + 19)) := r_rd (by omega) (by omega)
    obtain ⟨w1, w2, w4, w5, w6⟩ := h_bz (i := i) (c := c) hi h0 h1
    have no : h_dd (r_G M) i = false → E_V 257 104 [192, w, c, (i : Int)] M = E_V 257 104 [192, w, c, ((i + 1 : Nat) : Int)] M → E_V 257 104 [192, w, c, (i : Int)] M = some (c + h_cnt (h_dd (r_G M)) (m + 1) i, M) := fun e s4 => by
      rw [s4, ih (i + 1) c z1 h0 z4]
      refine congrArg some (congrArg (·, M) ?_)
      show _ = c + ((bif h_dd (r_G M) i then 1 else 0) + _)
      rw [e]
      exact congrArg (c + ·) (Int.zero_add _).symm
    by_cases e : r_G M (28 * (i : Int)) = 0
    · rw [e] at t
      by_cases e2 : r_G M (28 * (i : Int) + 19) = 1
      · rw [e2] at l2
        rw [h_257y l q t w1 w2 w5 w6 l2, ih (i + 1) (c + 1) z1 z2 z3]
        refine congrArg some (congrArg (·, M) ?_)
        show _ = c + ((bif h_dd (r_G M) i then 1 else 0) + _)
        rw [show h_dd (r_G M) i = true from Bool.and_eq_true_iff.mpr ⟨decide_eq_true e, decide_eq_true e2⟩]
        exact Int.add_assoc _ _ _
      · exact no (by unfold h_dd; rw [decide_eq_false e2, Bool.and_false]) (h_257z l q t w1 w4 w5 w6 l2 e2)
    · exact no (by unfold h_dd; rw [decide_eq_false e, Bool.false_and]) (h_257n l q t e w1 w4)
