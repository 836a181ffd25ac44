section
/-! count: class and reference count alike -/
def h_cnt (f : Nat → Bool) : Nat → Nat → Int
  | 0, _ => 0
  | m + 1, i => (bif f i then 1 else 0) + h_cnt f m (i + 1)
theorem h_cnt_b {f : Nat → Bool} : ∀ (m i : Nat), 0 ≤ h_cnt f m i ∧ h_cnt f m i ≤ m
  | 0, _ => ⟨Int.le_refl _, Int.le_refl _⟩
  | m + 1, i => by
    have := h_cnt_b (f := f) m (i + 1)
    unfold h_cnt
    cases f i <;> simp only [cond_true, cond_false] <;> omega
theorem h_cnt_cg {f g : Nat → Bool} : ∀ (m i : Nat), (∀ j, i ≤ j → j < i + m → f j = g j) → h_cnt f m i = h_cnt g m i
  | 0, _, _ => rfl
  | m + 1, i, h => by
    unfold h_cnt
    rw [h i (Nat.le_refl _) (by omega), h_cnt_cg m (i + 1) (fun j h1 h2 => h j (by omega) (by omega))]
theorem h_cz {m i n : Nat} {c : Int} (hm : i + (m + 1) = n) (h0 : 0 ≤ c) (h1 : c ≤ i) : (i + 1) + m = n ∧ 0 ≤ c + 1 ∧ c + 1 ≤ ((i + 1 : Nat) : Int) ∧ c ≤ ((i + 1 : Nat) : Int) := ⟨by omega, by omega, by omega, by omega⟩
theorem h_56l {k : Int} {n : Nat} {M : EM} (hn : M 10 0 = n) (h40 : n ≤ 40) : ∀ (m i : Nat) (c : Int), i + m = n → 0 ≤ c → c ≤ i → E_V 56 4 [10, k, c, (i : Int)] M = some (c + h_cnt (fun j => decide (M 11 j = k)) m i, M)
  | 0, i, c, hm, h0, h1 => by
    have e : i = n := by omega
    subst e
    have f := w_P0 M
    rw [hn] at f
    rw [E_V_eq]
    show e_tv E_C (E_V 56) e_t56_4 [10, k, c, (i : Int)] M = _
    unfold e_t56_4
    simp [zq_a, zq_b, zq_c, zq_d, zq_e, zq_f, zq_g, zq_h, zq_i, zq_j, zq_k, zq_l, zq_m, zq_n, zq_o, zq_p, zq_q, zq_r, zq_s, zq_t, zq_u, zq_v, zq_w, zq_x, zq_y, zq_z, zq_A, zq_B, zq_C, zq_D, zq_E, zq_F, zq_G, zq_H, zq_I, zq_J, zq_K, zq_L, ↓zq_M, ↓zq_N, ↓zq_O, ↓zq_P, ↓zq_Q, ↓zq_R, zq_S, zq_T, zq_U, zq_V, zq_W, zq_X, zq_Y, zq_Z, zq_0, zq_1, zq_2, zq_3, zq_4, zq_5, ↓zq_6, ↓zq_7, ↓zq_8, ↓zq_9, ↓zq_aa, zq_ab, zq_ac, zq_ad, zq_ae, zq_af, zq_ag, ↓zq_ah, ↓zq_ai, ↓zq_aj, zq_ak, ↓zq_al, ↓zq_am, e_b1, e_b2, x_o1, x_o2, f, h_cnt]
  | m + 1, i, c, hm, h0, h1 => by
    obtain ⟨z1, z2, z3, z4⟩ := h_cz hm h0 h1
    have f := w_P0 M
    rw [hn] at f
    have t : E_C 146 [11, (i : Int)] M = some (M 11 i, M) := w_atN (a := 11) (i := (i : Int)) (n := 40) (by decide +kernel) (j := i) rfl (by omega) M
    have q : (i : Int) < (n : Int) := by omega
    have w1 : e_w ((i : Int) + 1) = ((i + 1 : Nat) : Int) := a_w_id (by omega) (by omega)
    have w2 : e_w (c + 1) = c + 1 := a_w_id (by omega) (by omega)
    have s27 : ∀ c, E_V 56 27 [10, k, c, (i : Int)] M = E_V 56 4 [10, k, c, ((i + 1 : Nat) : Int)] M := fun c => by
      rw [E_V_eq]
      show e_tv E_C (E_V 56) e_t56_27 [10, k, c, (i : Int)] M = _
      unfold e_t56_27
      simp [zq_a, zq_b, zq_c, zq_d, zq_e, zq_f, zq_g, zq_h, zq_i, zq_j, zq_k, zq_l, zq_m, zq_n, zq_o, zq_p, zq_q, zq_r, zq_s, zq_t, zq_u, zq_v, zq_w, zq_x, zq_y, zq_z, zq_A, zq_B, zq_C, zq_D, zq_E, zq_F, zq_G, zq_H, zq_I, zq_J, zq_K, zq_L, ↓zq_M, ↓zq_N, ↓zq_O, ↓zq_P, ↓zq_Q, ↓zq_R, zq_S, zq_T, zq_U, zq_V, zq_W, zq_X, zq_Y, zq_Z, zq_0, zq_1, zq_2, zq_3, zq_4, zq_5, ↓zq_6, ↓zq_7, ↓zq_8, ↓zq_9, ↓zq_aa, zq_ab, zq_ac, zq_ad, zq_ae, zq_af, zq_ag, ↓zq_ah, ↓zq_ai, ↓zq_aj, zq_ak, ↓zq_al, ↓zq_am, e_b1, e_b2, x_o1, x_o2, w1]
    by_cases e : M 11 i = k
    · have s4 : E_V 56 4 [10, k, c, (i : Int)] M = E_V 56 27 [10, k, c + 1, (i : Int)] M := by
        rw [E_V_eq]
        show e_tv E_C (E_V 56) e_t56_4 [10, k, c, (i : Int)] M = _
        unfold e_t56_4
        simp [zq_a, zq_b, zq_c, zq_d, zq_e, zq_f, zq_g, zq_h, zq_i, zq_j, zq_k, zq_l, zq_m, zq_n, zq_o, zq_p, zq_q, zq_r, zq_s, zq_t, zq_u, zq_v, zq_w, zq_x, zq_y, zq_z, zq_A, zq_B, zq_C, zq_D, zq_E, zq_F, zq_G, zq_H, zq_I, zq_J, zq_K, zq_L, ↓zq_M, ↓zq_N, ↓zq_O, ↓zq_P, ↓zq_Q, ↓zq_R, zq_S, zq_T, zq_U, zq_V, zq_W, zq_X, zq_Y, zq_Z, zq_0, zq_1, zq_2, zq_3, zq_4, zq_5, ↓zq_6, ↓zq_7, ↓zq_8, ↓zq_9, ↓zq_aa, zq_ab, zq_ac, zq_ad, zq_ae, zq_af, zq_ag, ↓zq_ah, ↓zq_ai, ↓zq_aj, zq_ak, ↓zq_al, ↓zq_am, e_b1, e_b2, x_o1, x_o2, f, q, w_P1, t, e, w2]
      rw [s4, s27, h_56l hn h40 m (i + 1) (c + 1) z1 z2 z3]
      refine congrArg some (congrArg (·, M) ?_)
      show _ = c + ((bif decide (M 11 i = k) then 1 else 0) + _)
      rw [decide_eq_true e]
      exact Int.add_assoc _ _ _
    · have s4 : E_V 56 4 [10, k, c, (i : Int)] M = E_V 56 27 [10, k, c, (i : Int)] M := by
        rw [E_V_eq]
        show e_tv E_C (E_V 56) e_t56_4 [10, k, c, (i : Int)] M = _
        unfold e_t56_4
        simp [zq_a, zq_b, zq_c, zq_d, zq_e, zq_f, zq_g, zq_h, zq_i, zq_j, zq_k, zq_l, zq_m, zq_n, zq_o, zq_p, zq_q, zq_r, zq_s, zq_t, zq_u, zq_v, zq_w, zq_x, zq_y, zq_z, zq_A, zq_B, zq_C, zq_D, zq_E, zq_F, zq_G, zq_H, zq_I, zq_J, zq_K, zq_L, ↓zq_M, ↓zq_N, ↓zq_O, ↓zq_P, ↓zq_Q, ↓zq_R, zq_S, zq_T, zq_U, zq_V, zq_W, zq_X, zq_Y, zq_Z, zq_0, zq_1, zq_2, zq_3, zq_4, zq_5, ↓zq_6, ↓zq_7, ↓zq_8, ↓zq_9, ↓zq_aa, zq_ab, zq_ac, zq_ad, zq_ae, zq_af, zq_ag, ↓zq_ah, ↓zq_ai, ↓zq_aj, zq_ak, ↓zq_al, ↓zq_am, e_b1, e_b2, x_o1, x_o2, f, q, w_P1, t, e]
      rw [s4, s27, h_56l hn h40 m (i + 1) c z1 h0 z4]
      refine congrArg some (congrArg (·, M) ?_)
      show _ = c + ((bif decide (M 11 i = k) then 1 else 0) + _)
      rw [decide_eq_false e]
      exact congrArg (c + ·) (Int.zero_add _).symm
theorem h_56 {k : Int} {n : Nat} {M : EM} (hn : M 10 0 = n) (h40 : n ≤ 40) : E_C 56 [10, k] M = some (h_cnt (fun j => decide (M 11 j = k)) n 0, M) := by
  have l := h_56l (k := k) hn h40 n 0 0 (by omega) (by decide) (by decide)
  rw [Int.zero_add] at l
  rw [r_ent (show e_rok 56 [10, k] = true from decide_eq_true (show e_isO 4 10 by decide +kernel))]
  show e_tv E_C (E_V 56) e_t56_0 [10, k, 0, 0] M = _
  unfold e_t56_0
  have l' : E_V 56 4 [10, k, 0, 0] M = some (h_cnt (fun j => decide (M 11 j = k)) n 0, M) := l
  simp [zq_a, zq_b, zq_c, zq_d, zq_e, zq_f, zq_g, zq_h, zq_i, zq_j, zq_k, zq_l, zq_m, zq_n, zq_o, zq_p, zq_q, zq_r, zq_s, zq_t, zq_u, zq_v, zq_w, zq_x, zq_y, zq_z, zq_A, zq_B, zq_C, zq_D, zq_E, zq_F, zq_G, zq_H, zq_I, zq_J, zq_K, zq_L, ↓zq_M, ↓zq_N, ↓zq_O, ↓zq_P, ↓zq_Q, ↓zq_R, zq_S, zq_T, zq_U, zq_V, zq_W, zq_X, zq_Y, zq_Z, zq_0, zq_1, zq_2, zq_3, zq_4, zq_5, ↓zq_6, ↓zq_7, ↓zq_8, ↓zq_9, ↓zq_aa, zq_ab, zq_ac, zq_ad, zq_ae, zq_af, zq_ag, ↓zq_ah, ↓zq_ai, ↓zq_aj, zq_ak, ↓zq_al, ↓zq_am, e_b1, e_b2, x_o1, x_o2, l']
theorem h_39l {n : Nat} {M : EM} (hn : M 10 0 = n) (h40 : n ≤ 40) : ∀ (m i : Nat) (c : Int), i + m = n → 0 ≤ c → c ≤ i → E_V 39 4 [18, 10, c, (i : Int)] M = some (c + h_cnt (fun j => decide (M 11 j = 0) && decide (M 22 j ≠ 0)) m i, M)
  | 0, i, c, hm, h0, h1 => by
    have e : i = n := by omega
    subst e
    have f := w_P0 M
    rw [hn] at f
    rw [E_V_eq]
    show e_tv E_C (E_V 39) e_t39_4 [18, 10, c, (i : Int)] M = _
    unfold e_t39_4
    simp [zq_a, zq_b, zq_c, zq_d, zq_e, zq_f, zq_g, zq_h, zq_i, zq_j, zq_k, zq_l, zq_m, zq_n, zq_o, zq_p, zq_q, zq_r, zq_s, zq_t, zq_u, zq_v, zq_w, zq_x, zq_y, zq_z, zq_A, zq_B, zq_C, zq_D, zq_E, zq_F, zq_G, zq_H, zq_I, zq_J, zq_K, zq_L, ↓zq_M, ↓zq_N, ↓zq_O, ↓zq_P, ↓zq_Q, ↓zq_R, zq_S, zq_T, zq_U, zq_V, zq_W, zq_X, zq_Y, zq_Z, zq_0, zq_1, zq_2, zq_3, zq_4, zq_5, ↓zq_6, ↓zq_7, ↓zq_8, ↓zq_9, ↓zq_aa, zq_ab, zq_ac, zq_ad, zq_ae, zq_af, zq_ag, ↓zq_ah, ↓zq_ai, ↓zq_aj, zq_ak, ↓zq_al, ↓zq_am, e_b1, e_b2, x_o1, x_o2, f, h_cnt]
  | m + 1, i, c, hm, h0, h1 => by
    obtain ⟨z1, z2, z3, z4⟩ := h_cz hm h0 h1
    have f := w_P0 M
    rw [hn] at f
    have t : E_C 146 [11, (i : Int)] M = some (M 11 i, M) := w_atN (a := 11) (i := (i : Int)) (n := 40) (by decide +kernel) (j := i) rfl (by omega) M
    have t2 : E_C 146 [22, (i : Int)] M = some (M 22 i, M) := w_atN (a := 22) (i := (i : Int)) (n := 40) (by decide +kernel) (j := i) rfl (by omega) M
    have q : (i : Int) < (n : Int) := by omega
    have w1 : e_w ((i : Int) + 1) = ((i + 1 : Nat) : Int) := a_w_id (by omega) (by omega)
    have w2 : e_w (c + 1) = c + 1 := a_w_id (by omega) (by omega)
    have s27 : ∀ c, E_V 39 37 [18, 10, c, (i : Int)] M = E_V 39 4 [18, 10, c, ((i + 1 : Nat) : Int)] M := fun c => by
      rw [E_V_eq]
      show e_tv E_C (E_V 39) e_t39_37 [18, 10, c, (i : Int)] M = _
      unfold e_t39_37
      simp [zq_a, zq_b, zq_c, zq_d, zq_e, zq_f, zq_g, zq_h, zq_i, zq_j, zq_k, zq_l, zq_m, zq_n, zq_o, zq_p, zq_q, zq_r, zq_s, zq_t, zq_u, zq_v, zq_w, zq_x, zq_y, zq_z, zq_A, zq_B, zq_C, zq_D, zq_E, zq_F, zq_G, zq_H, zq_I, zq_J, zq_K, zq_L, ↓zq_M, ↓zq_N, ↓zq_O, ↓zq_P, ↓zq_Q, ↓zq_R, zq_S, zq_T, zq_U, zq_V, zq_W, zq_X, zq_Y, zq_Z, zq_0, zq_1, zq_2, zq_3, zq_4, zq_5, ↓zq_6, ↓zq_7, ↓zq_8, ↓zq_9, ↓zq_aa, zq_ab, zq_ac, zq_ad, zq_ae, zq_af, zq_ag, ↓zq_ah, ↓zq_ai, ↓zq_aj, zq_ak, ↓zq_al, ↓zq_am, e_b1, e_b2, x_o1, x_o2, w1]
    have no : (decide (M 11 i = 0) && decide (M 22 i ≠ 0)) = false → E_V 39 4 [18, 10, c, (i : Int)] M = E_V 39 37 [18, 10, c, (i : Int)] M → E_V 39 4 [18, 10, c, (i : Int)] M = some (c + h_cnt (fun j => decide (M 11 j = 0) && decide (M 22 j ≠ 0)) (m + 1) i, M) := fun e s4 => by
      rw [s4, s27, h_39l hn h40 m (i + 1) c z1 h0 z4]
      refine congrArg some (congrArg (·, M) ?_)
      show _ = c + ((bif (decide (M 11 i = 0) && decide (M 22 i ≠ 0)) then 1 else 0) + _)
      rw [e]
      exact congrArg (c + ·) (Int.zero_add _).symm
    by_cases e : M 11 i = 0
    · by_cases e2 : M 22 i = 0
      · refine no (by rw [decide_eq_false (show ¬ M 22 i ≠ 0 from fun h => h e2), Bool.and_false]) ?_
        rw [E_V_eq]
        show e_tv E_C (E_V 39) e_t39_4 [18, 10, c, (i : Int)] M = _
        unfold e_t39_4
        simp [zq_a, zq_b, zq_c, zq_d, zq_e, zq_f, zq_g, zq_h, zq_i, zq_j, zq_k, zq_l, zq_m, zq_n, zq_o, zq_p, zq_q, zq_r, zq_s, zq_t, zq_u, zq_v, zq_w, zq_x, zq_y, zq_z, zq_A, zq_B, zq_C, zq_D, zq_E, zq_F, zq_G, zq_H, zq_I, zq_J, zq_K, zq_L, ↓zq_M, ↓zq_N, ↓zq_O, ↓zq_P, ↓zq_Q, ↓zq_R, zq_S, zq_T, zq_U, zq_V, zq_W, zq_X, zq_Y, zq_Z, zq_0, zq_1, zq_2, zq_3, zq_4, zq_5, ↓zq_6, ↓zq_7, ↓zq_8, ↓zq_9, ↓zq_aa, zq_ab, zq_ac, zq_ad, zq_ae, zq_af, zq_ag, ↓zq_ah, ↓zq_ai, ↓zq_aj, zq_ak, ↓zq_al, ↓zq_am, e_b1, e_b2, x_o1, x_o2, f, q, w_P1, w_C3, t, t2, e, e2]
      · have s4 : E_V 39 4 [18, 10, c, (i : Int)] M = E_V 39 37 [18, 10, c + 1, (i : Int)] M := by
          rw [E_V_eq]
          show e_tv E_C (E_V 39) e_t39_4 [18, 10, c, (i : Int)] M = _
          unfold e_t39_4
          simp [zq_a, zq_b, zq_c, zq_d, zq_e, zq_f, zq_g, zq_h, zq_i, zq_j, zq_k, zq_l, zq_m, zq_n, zq_o, zq_p, zq_q, zq_r, zq_s, zq_t, zq_u, zq_v, zq_w, zq_x, zq_y, zq_z, zq_A, zq_B, zq_C, zq_D, zq_E, zq_F, zq_G, zq_H, zq_I, zq_J, zq_K, zq_L, ↓zq_M, ↓zq_N, ↓zq_O, ↓zq_P, ↓zq_Q, ↓zq_R, zq_S, zq_T, zq_U, zq_V, zq_W, zq_X, zq_Y, zq_Z, zq_0, zq_1, zq_2, zq_3, zq_4, zq_5, ↓zq_6, ↓zq_7, ↓zq_8, ↓zq_9, ↓zq_aa, zq_ab, zq_ac, zq_ad, zq_ae, zq_af, zq_ag, ↓zq_ah, ↓zq_ai, ↓zq_aj, zq_ak, ↓zq_al, ↓zq_am, e_b1, e_b2, x_o1, x_o2, f, q, w_P1, w_C3, t, t2, e, e2, w2]
        rw [s4, s27, h_39l hn h40 m (i + 1) (c + 1) z1 z2 z3]
        refine congrArg some (congrArg (·, M) ?_)
        show _ = c + ((bif (decide (M 11 i = 0) && decide (M 22 i ≠ 0)) then 1 else 0) + _)
        rw [decide_eq_true e, decide_eq_true e2, Bool.and_true]
        exact Int.add_assoc _ _ _
    · refine no (by rw [decide_eq_false e, Bool.false_and]) ?_
      rw [E_V_eq]
      show e_tv E_C (E_V 39) e_t39_4 [18, 10, c, (i : Int)] M = _
      unfold e_t39_4
      simp [zq_a, zq_b, zq_c, zq_d, zq_e, zq_f, zq_g, zq_h, zq_i, zq_j, zq_k, zq_l, zq_m, zq_n, zq_o, zq_p, zq_q, zq_r, zq_s, zq_t, zq_u, zq_v, zq_w, zq_x, zq_y, zq_z, zq_A, zq_B, zq_C, zq_D, zq_E, zq_F, zq_G, zq_H, zq_I, zq_J, zq_K, zq_L, ↓zq_M, ↓zq_N, ↓zq_O, ↓zq_P, ↓zq_Q, ↓zq_R, zq_S, zq_T, zq_U, zq_V, zq_W, zq_X, zq_Y, zq_Z, zq_0, zq_1, zq_2, zq_3, zq_4, zq_5, ↓zq_6, ↓zq_7, ↓zq_8, ↓zq_9, ↓zq_aa, zq_ab, zq_ac, zq_ad, zq_ae, zq_af, zq_ag, ↓zq_ah, ↓zq_ai, ↓zq_aj, zq_ak, ↓zq_al, ↓zq_am, e_b1, e_b2, x_o1, x_o2, f, q, w_P1, t, e]
theorem h_39 {n : Nat} {M : EM} (hn : M 10 0 = n) (h40 : n ≤ 40) : E_C 39 [18, 10] M = some (h_cnt (fun j => decide (M 11 j = 0) && decide (M 22 j ≠ 0)) n 0, M) := by
  have l := h_39l hn h40 n 0 0 (by omega) (by decide) (by decide)
  rw [Int.zero_add] at l
  rw [r_ent (show e_rok 39 [18, 10] = true by decide +kernel)]
  show e_tv E_C (E_V 39) e_t39_0 [18, 10, 0, 0] M = _
  unfold e_t39_0
  have l' : E_V 39 4 [18, 10, 0, 0] M = _ := l
  simp [zq_a, zq_b, zq_c, zq_d, zq_e, zq_f, zq_g, zq_h, zq_i, zq_j, zq_k, zq_l, zq_m, zq_n, zq_o, zq_p, zq_q, zq_r, zq_s, zq_t, zq_u, zq_v, zq_w, zq_x, zq_y, zq_z, zq_A, zq_B, zq_C, zq_D, zq_E, zq_F, zq_G, zq_H, zq_I, zq_J, zq_K, zq_L, ↓zq_M, ↓zq_N, ↓zq_O, ↓zq_P, ↓zq_Q, ↓zq_R, zq_S, zq_T, zq_U, zq_V, zq_W, zq_X, zq_Y, zq_Z, zq_0, zq_1, zq_2, zq_3, zq_4, zq_5, ↓zq_6, ↓zq_7, ↓zq_8, ↓zq_9, ↓zq_aa, zq_ab, zq_ac, zq_ad, zq_ae, zq_af, zq_ag, ↓zq_ah, ↓zq_ai, ↓zq_aj, zq_ak, ↓zq_al, ↓zq_am, e_b1, e_b2, x_o1, x_o2, l']
end
section
/-! count: what stands on the roof; the reference's three loops -/
theorem h_73l {M : EM} : ∀ (m i : Nat) (c : Int), i + m = 10 → 0 ≤ c → c ≤ i → E_V 73 4 [26, c, (i : Int)] M = some (c + h_cnt (fun j => decide (0 < M 29 j)) m i, M)
  | 0, i, c, hm, h0, h1 => by
    have e : i = 10 := by omega
    subst e
    rw [E_V_eq]
    show e_tv E_C (E_V 73) e_t73_4 [26, c, ((10 : Nat) : Int)] M = _
    unfold e_t73_4
    simp [zq_a, zq_b, zq_c, zq_d, zq_e, zq_f, zq_g, zq_h, zq_i, zq_j, zq_k, zq_l, zq_m, zq_n, zq_o, zq_p, zq_q, zq_r, zq_s, zq_t, zq_u, zq_v, zq_w, zq_x, zq_y, zq_z, zq_A, zq_B, zq_C, zq_D, zq_E, zq_F, zq_G, zq_H, zq_I, zq_J, zq_K, zq_L, ↓zq_M, ↓zq_N, ↓zq_O, ↓zq_P, ↓zq_Q, ↓zq_R, zq_S, zq_T, zq_U, zq_V, zq_W, zq_X, zq_Y, zq_Z, zq_0, zq_1, zq_2, zq_3, zq_4, zq_5, ↓zq_6, ↓zq_7, ↓zq_8, ↓zq_9, ↓zq_aa, zq_ab, zq_ac, zq_ad, zq_ae, zq_af, zq_ag, ↓zq_ah, ↓zq_ai, ↓zq_aj, zq_ak, ↓zq_al, ↓zq_am, e_b1, e_b2, x_o1, x_o2, h_cnt]
  | m + 1, i, c, hm, h0, h1 => by
    obtain ⟨z1, z2, z3, z4⟩ := h_cz hm h0 h1
    have t : E_C 146 [29, (i : Int)] M = some (M 29 i, M) := w_atN (a := 29) (i := (i : Int)) (n := 10) (by decide +kernel) (j := i) rfl (by omega) M
    have q : (i : Int) < 10 := by omega
    have w1 : e_w ((i : Int) + 1) = ((i + 1 : Nat) : Int) := a_w_id (by omega) (by omega)
    have w2 : e_w (c + 1) = c + 1 := a_w_id (by omega) (by omega)
    have s27 : ∀ c, E_V 73 24 [26, c, (i : Int)] M = E_V 73 4 [26, c, ((i + 1 : Nat) : Int)] M := fun c => by
      rw [E_V_eq]
      show e_tv E_C (E_V 73) e_t73_24 [26, c, (i : Int)] M = _
      unfold e_t73_24
      simp [zq_a, zq_b, zq_c, zq_d, zq_e, zq_f, zq_g, zq_h, zq_i, zq_j, zq_k, zq_l, zq_m, zq_n, zq_o, zq_p, zq_q, zq_r, zq_s, zq_t, zq_u, zq_v, zq_w, zq_x, zq_y, zq_z, zq_A, zq_B, zq_C, zq_D, zq_E, zq_F, zq_G, zq_H, zq_I, zq_J, zq_K, zq_L, ↓zq_M, ↓zq_N, ↓zq_O, ↓zq_P, ↓zq_Q, ↓zq_R, zq_S, zq_T, zq_U, zq_V, zq_W, zq_X, zq_Y, zq_Z, zq_0, zq_1, zq_2, zq_3, zq_4, zq_5, ↓zq_6, ↓zq_7, ↓zq_8, ↓zq_9, ↓zq_aa, zq_ab, zq_ac, zq_ad, zq_ae, zq_af, zq_ag, ↓zq_ah, ↓zq_ai, ↓zq_aj, zq_ak, ↓zq_al, ↓zq_am, e_b1, e_b2, x_o1, x_o2, w1]
    generalize hx : M 29 i = x at t
    rcases x_lt 0 x with ⟨e, e'⟩ | ⟨e, e'⟩
    · have s4 : E_V 73 4 [26, c, (i : Int)] M = E_V 73 24 [26, c + 1, (i : Int)] M := by
        rw [E_V_eq]
        show e_tv E_C (E_V 73) e_t73_4 [26, c, (i : Int)] M = _
        unfold e_t73_4
        simp [zq_a, zq_b, zq_c, zq_d, zq_e, zq_f, zq_g, zq_h, zq_i, zq_j, zq_k, zq_l, zq_m, zq_n, zq_o, zq_p, zq_q, zq_r, zq_s, zq_t, zq_u, zq_v, zq_w, zq_x, zq_y, zq_z, zq_A, zq_B, zq_C, zq_D, zq_E, zq_F, zq_G, zq_H, zq_I, zq_J, zq_K, zq_L, ↓zq_M, ↓zq_N, ↓zq_O, ↓zq_P, ↓zq_Q, ↓zq_R, zq_S, zq_T, zq_U, zq_V, zq_W, zq_X, zq_Y, zq_Z, zq_0, zq_1, zq_2, zq_3, zq_4, zq_5, ↓zq_6, ↓zq_7, ↓zq_8, ↓zq_9, ↓zq_aa, zq_ab, zq_ac, zq_ad, zq_ae, zq_af, zq_ag, ↓zq_ah, ↓zq_ai, ↓zq_aj, zq_ak, ↓zq_al, ↓zq_am, e_b1, e_b2, x_o1, x_o2, q, p_386, t, e, e', w2]
      rw [s4, s27, h_73l m (i + 1) (c + 1) z1 z2 z3]
      refine congrArg some (congrArg (·, M) ?_)
      show _ = c + ((bif decide (0 < M 29 i) then 1 else 0) + _)
      rw [hx, decide_eq_true e]
      exact Int.add_assoc _ _ _
    · have s4 : E_V 73 4 [26, c, (i : Int)] M = E_V 73 24 [26, c, (i : Int)] M := by
        rw [E_V_eq]
        show e_tv E_C (E_V 73) e_t73_4 [26, c, (i : Int)] M = _
        unfold e_t73_4
        simp [zq_a, zq_b, zq_c, zq_d, zq_e, zq_f, zq_g, zq_h, zq_i, zq_j, zq_k, zq_l, zq_m, zq_n, zq_o, zq_p, zq_q, zq_r, zq_s, zq_t, zq_u, zq_v, zq_w, zq_x, zq_y, zq_z, zq_A, zq_B, zq_C, zq_D, zq_E, zq_F, zq_G, zq_H, zq_I, zq_J, zq_K, zq_L, ↓zq_M, ↓zq_N, ↓zq_O, ↓zq_P, ↓zq_Q, ↓zq_R, zq_S, zq_T, zq_U, zq_V, zq_W, zq_X, zq_Y, zq_Z, zq_0, zq_1, zq_2, zq_3, zq_4, zq_5, ↓zq_6, ↓zq_7, ↓zq_8, ↓zq_9, ↓zq_aa, zq_ab, zq_ac, zq_ad, zq_ae, zq_af, zq_ag, ↓zq_ah, ↓zq_ai, ↓zq_aj, zq_ak, ↓zq_al, ↓zq_am, e_b1, e_b2, x_o1, x_o2, q, p_386, t, e, e']
      rw [s4, s27, h_73l m (i + 1) c z1 h0 z4]
      refine congrArg some (congrArg (·, M) ?_)
      show _ = c + ((bif decide (0 < M 29 i) then 1 else 0) + _)
      rw [hx, decide_eq_false e]
      exact congrArg (c + ·) (Int.zero_add _).symm
theorem h_73 {M : EM} : E_C 73 [26] M = some (h_cnt (fun j => decide (0 < M 29 j)) 10 0, M) := by
  have l := h_73l (M := M) 10 0 0 (by omega) (by decide) (by decide)
  rw [Int.zero_add] at l
  rw [r_ent (show e_rok 73 [26] = true by decide +kernel)]
  show e_tv E_C (E_V 73) e_t73_0 [26, 0, 0] M = _
  unfold e_t73_0
  have l' : E_V 73 4 [26, 0, 0] M = _ := l
  simp [zq_a, zq_b, zq_c, zq_d, zq_e, zq_f, zq_g, zq_h, zq_i, zq_j, zq_k, zq_l, zq_m, zq_n, zq_o, zq_p, zq_q, zq_r, zq_s, zq_t, zq_u, zq_v, zq_w, zq_x, zq_y, zq_z, zq_A, zq_B, zq_C, zq_D, zq_E, zq_F, zq_G, zq_H, zq_I, zq_J, zq_K, zq_L, ↓zq_M, ↓zq_N, ↓zq_O, ↓zq_P, ↓zq_Q, ↓zq_R, zq_S, zq_T, zq_U, zq_V, zq_W, zq_X, zq_Y, zq_Z, zq_0, zq_1, zq_2, zq_3, zq_4, zq_5, ↓zq_6, ↓zq_7, ↓zq_8, ↓zq_9, ↓zq_aa, zq_ab, zq_ac, zq_ad, zq_ae, zq_af, zq_ag, ↓zq_ah, ↓zq_ai, ↓zq_aj, zq_ak, ↓zq_al, ↓zq_am, e_b1, e_b2, x_o1, x_o2, l']
theorem h_257a {w : Int} {n : Nat} {M : EM} (hw : 1 ≤ w ∧ w ≤ 4) (hn : r_G M 1198 = n) (h40 : n ≤ 40) : ∀ (m i : Nat) (c : Int), i + m = n → 0 ≤ c → c ≤ i → E_V 257 63 [192, w, c, (i : Int)] M = some (c + h_cnt (fun j => decide (r_G M (28 * (j : Int)) = w - 1)) m i, M)
  | 0, i, c, hm, h0, h1 => by
    have e : i = n := by omega
    subst e
    have l : e_op 60 [193, 1198] M = some (i : Int) := (r_rd (by decide) (by decide)).trans (congrArg some hn)
    rw [E_V_eq]
    show e_tv E_C (E_V 257) e_t257_63 [192, w, c, (i : Int)] M = _
    unfold e_t257_63
    simp [zq_a, zq_b, zq_c, zq_d, zq_e, zq_f, zq_g, zq_h, zq_i, zq_j, zq_k, zq_l, zq_m, zq_n, zq_o, zq_p, zq_q, zq_r, zq_s, zq_t, zq_u, zq_v, zq_w, zq_x, zq_y, zq_z, zq_A, zq_B, zq_C, zq_D, zq_E, zq_F, zq_G, zq_H, zq_I, zq_J, zq_K, zq_L, ↓zq_M, ↓zq_N, ↓zq_O, ↓zq_P, ↓zq_Q, ↓zq_R, zq_S, zq_T, zq_U, zq_V, zq_W, zq_X, zq_Y, zq_Z, zq_0, zq_1, zq_2, zq_3, zq_4, zq_5, ↓zq_6, ↓zq_7, ↓zq_8, ↓zq_9, ↓zq_aa, zq_ab, zq_ac, zq_ad, zq_ae, zq_af, zq_ag, ↓zq_ah, ↓zq_ai, ↓zq_aj, zq_ak, ↓zq_al, ↓zq_am, e_b1, e_b2, x_o1, x_o2, r_O0, l, h_cnt]
  | m + 1, i, c, hm, h0, h1 => by
    obtain ⟨z1, z2, z3, z4⟩ := h_cz hm h0 h1
    have l : e_op 60 [193, 1198] M = some (n : Int) := (r_rd (by decide) (by decide)).trans (congrArg some hn)
    have t : E_C 170 [192, (i : Int)] M = some (r_G M (28 * (i : Int)), M) := r_kind ⟨by omega, by omega⟩
    have q : (i : Int) < (n : Int) := by omega
    have w1 : e_w ((i : Int) + 1) = ((i + 1 : Nat) : Int) := a_w_id (by omega) (by omega)
    have w2 : e_w (c + 1) = c + 1 := a_w_id (by omega) (by omega)
    have w4 : e_w c = c := a_w_id (by omega) (by omega)
    have w3 : e_w (w - 1) = w - 1 := a_w_id (by omega) (by omega)
    by_cases e : r_G M (28 * (i : Int)) = w - 1
    · have s4 : E_V 257 63 [192, w, c, (i : Int)] M = E_V 257 63 [192, w, c + 1, ((i + 1 : Nat) : Int)] M := by
        rw [E_V_eq]
        show e_tv E_C (E_V 257) e_t257_63 [192, w, c, (i : Int)] M = _
        unfold e_t257_63
        simp [zq_a, zq_b, zq_c, zq_d, zq_e, zq_f, zq_g, zq_h, zq_i, zq_j, zq_k, zq_l, zq_m, zq_n, zq_o, zq_p, zq_q, zq_r, zq_s, zq_t, zq_u, zq_v, zq_w, zq_x, zq_y, zq_z, zq_A, zq_B, zq_C, zq_D, zq_E, zq_F, zq_G, zq_H, zq_I, zq_J, zq_K, zq_L, ↓zq_M, ↓zq_N, ↓zq_O, ↓zq_P, ↓zq_Q, ↓zq_R, zq_S, zq_T, zq_U, zq_V, zq_W, zq_X, zq_Y, zq_Z, zq_0, zq_1, zq_2, zq_3, zq_4, zq_5, ↓zq_6, ↓zq_7, ↓zq_8, ↓zq_9, ↓zq_aa, zq_ab, zq_ac, zq_ad, zq_ae, zq_af, zq_ag, ↓zq_ah, ↓zq_ai, ↓zq_aj, zq_ak, ↓zq_al, ↓zq_am, e_b1, e_b2, x_o1, x_o2, r_O0, l, q, t, e, w1, w2, w3]
      rw [s4, h_257a hw hn h40 m (i + 1) (c + 1) z1 z2 z3]
      refine congrArg some (congrArg (·, M) ?_)
      show _ = c + ((bif decide (r_G M (28 * (i : Int)) = w - 1) then 1 else 0) + _)
      rw [decide_eq_true e]
      exact Int.add_assoc _ _ _
    · have s4 : E_V 257 63 [192, w, c, (i : Int)] M = E_V 257 63 [192, w, c, ((i + 1 : Nat) : Int)] M := by
        rw [E_V_eq]
        show e_tv E_C (E_V 257) e_t257_63 [192, w, c, (i : Int)] M = _
        unfold e_t257_63
        simp [zq_a, zq_b, zq_c, zq_d, zq_e, zq_f, zq_g, zq_h, zq_i, zq_j, zq_k, zq_l, zq_m, zq_n, zq_o, zq_p, zq_q, zq_r, zq_s, zq_t, zq_u, zq_v, zq_w, zq_x, zq_y, zq_z, zq_A, zq_B, zq_C, zq_D, zq_E, zq_F, zq_G, zq_H, zq_I, zq_J, zq_K, zq_L, ↓zq_M, ↓zq_N, ↓zq_O, ↓zq_P, ↓zq_Q, ↓zq_R, zq_S, zq_T, zq_U, zq_V, zq_W, zq_X, zq_Y, zq_Z, zq_0, zq_1, zq_2, zq_3, zq_4, zq_5, ↓zq_6, ↓zq_7, ↓zq_8, ↓zq_9, ↓zq_aa, zq_ab, zq_ac, zq_ad, zq_ae, zq_af, zq_ag, ↓zq_ah, ↓zq_ai, ↓zq_aj, zq_ak, ↓zq_al, ↓zq_am, e_b1, e_b2, x_o1, x_o2, r_O0, l, q, t, e, w1, w4, w3]
      rw [s4, h_257a hw hn h40 m (i + 1) c z1 h0 z4]
      refine congrArg some (congrArg (·, M) ?_)
      show _ = c + ((bif decide (r_G M (28 * (i : Int)) = w - 1) then 1 else 0) + _)
      rw [decide_eq_false e]
      exact congrArg (c + ·) (Int.zero_add _).symm
theorem h_257c {w : Int} {M : EM} : ∀ (m i : Nat) (c : Int), i + m = 10 → 0 ≤ c → c ≤ i → E_V 257 158 [192, w, c, (i : Int)] M = some (c + h_cnt (fun j => decide (0 < r_G M (1120 + 3 * (j : Int) + 2))) m i, M)
  | 0, i, c, hm, h0, h1 => by
    have e : i = 10 := by omega
    subst e
    rw [E_V_eq]
    show e_tv E_C (E_V 257) e_t257_158 [192, w, c, ((10 : Nat) : Int)] M = _
    unfold e_t257_158
    simp [zq_a, zq_b, zq_c, zq_d, zq_e, zq_f, zq_g, zq_h, zq_i, zq_j, zq_k, zq_l, zq_m, zq_n, zq_o, zq_p, zq_q, zq_r, zq_s, zq_t, zq_u, zq_v, zq_w, zq_x, zq_y, zq_z, zq_A, zq_B, zq_C, zq_D, zq_E, zq_F, zq_G, zq_H, zq_I, zq_J, zq_K, zq_L, ↓zq_M, ↓zq_N, ↓zq_O, ↓zq_P, ↓zq_Q, ↓zq_R, zq_S, zq_T, zq_U, zq_V, zq_W, zq_X, zq_Y, zq_Z, zq_0, zq_1, zq_2, zq_3, zq_4, zq_5, ↓zq_6, ↓zq_7, ↓zq_8, ↓zq_9, ↓zq_aa, zq_ab, zq_ac, zq_ad, zq_ae, zq_af, zq_ag, ↓zq_ah, ↓zq_ai, ↓zq_aj, zq_ak, ↓zq_al, ↓zq_am, e_b1, e_b2, x_o1, x_o2, h_cnt]
  | m + 1, i, c, hm, h0, h1 => by
    obtain ⟨z1, z2, z3, z4⟩ := h_cz hm h0 h1
    have q : (i : Int) < 10 := by omega
    have w1 : e_w ((i : Int) + 1) = ((i + 1 : Nat) : Int) := a_w_id (by omega) (by omega)
    have w2 : e_w (c + 1) = c + 1 := a_w_id (by omega) (by omega)
    have w3 : e_w c = c := a_w_id (by omega) (by omega)
    have w4 : e_w (3 * (i : Int)) = 3 * (i : Int) := a_w_id (by omega) (by omega)
    have w5 : e_w (1120 + 3 * (i : Int)) = 1120 + 3 * (i : Int) := a_w_id (by omega) (by omega)
    have w6 : e_w (1120 + 3 * (i : Int) + 2) = 1120 + 3 * (i : Int) + 2 := a_w_id (by omega) (by omega)
    have l2 : e_op 60 [193, 1120 + 3 * (i : Int) + 2] M = some (r_G M (1120 + 3 * (i : Int) + 2)) := r_rd (by omega) (by omega)
    generalize hx : r_G M (1120 + 3 * (i : Int) + 2) = x at l2
    rcases x_lt 0 x with ⟨e, e'⟩ | ⟨e, e'⟩
    · have s4 : E_V 257 158 [192, w, c, (i : Int)] M = E_V 257 158 [192, w, c + 1, ((i + 1 : Nat) : Int)] M := by
        rw [E_V_eq]
        show e_tv E_C (E_V 257) e_t257_158 [192, w, c, (i : Int)] M = _
        unfold e_t257_158
        simp [zq_a, zq_b, zq_c, zq_d, zq_e, zq_f, zq_g, zq_h, zq_i, zq_j, zq_k, zq_l, zq_m, zq_n, zq_o, zq_p, zq_q, zq_r, zq_s, zq_t, zq_u, zq_v, zq_w, zq_x, zq_y, zq_z, zq_A, zq_B, zq_C, zq_D, zq_E, zq_F, zq_G, zq_H, zq_I, zq_J, zq_K, zq_L, ↓zq_M, ↓zq_N, ↓zq_O, ↓zq_P, ↓zq_Q, ↓zq_R, zq_S, zq_T, zq_U, zq_V, zq_W, zq_X, zq_Y, zq_Z, zq_0, zq_1, zq_2, zq_3, zq_4, zq_5, ↓zq_6, ↓zq_7, ↓zq_8, ↓zq_9, ↓zq_aa, zq_ab, zq_ac, zq_ad, zq_ae, zq_af, zq_ag, ↓zq_ah, ↓zq_ai, ↓zq_aj, zq_ak, ↓zq_al, ↓zq_am, e_b1, e_b2, x_o1, x_o2, r_O0, q, e, e', w1, w2, w4, w5, w6, l2]
      rw [s4, h_257c m (i + 1) (c + 1) z1 z2 z3]
      refine congrArg some (congrArg (·, M) ?_)
      show _ = c + ((bif decide (0 < r_G M (1120 + 3 * (i : Int) + 2)) then 1 else 0) + _)
      rw [hx, decide_eq_true e]
      exact Int.add_assoc _ _ _
    · have s4 : E_V 257 158 [192, w, c, (i : Int)] M = E_V 257 158 [192, w, c, ((i + 1 : Nat) : Int)] M := by
        rw [E_V_eq]
        show e_tv E_C (E_V 257) e_t257_158 [192, w, c, (i : Int)] M = _
        unfold e_t257_158
        simp [zq_a, zq_b, zq_c, zq_d, zq_e, zq_f, zq_g, zq_h, zq_i, zq_j, zq_k, zq_l, zq_m, zq_n, zq_o, zq_p, zq_q, zq_r, zq_s, zq_t, zq_u, zq_v, zq_w, zq_x, zq_y, zq_z, zq_A, zq_B, zq_C, zq_D, zq_E, zq_F, zq_G, zq_H, zq_I, zq_J, zq_K, zq_L, ↓zq_M, ↓zq_N, ↓zq_O, ↓zq_P, ↓zq_Q, ↓zq_R, zq_S, zq_T, zq_U, zq_V, zq_W, zq_X, zq_Y, zq_Z, zq_0, zq_1, zq_2, zq_3, zq_4, zq_5, ↓zq_6, ↓zq_7, ↓zq_8, ↓zq_9, ↓zq_aa, zq_ab, zq_ac, zq_ad, zq_ae, zq_af, zq_ag, ↓zq_ah, ↓zq_ai, ↓zq_aj, zq_ak, ↓zq_al, ↓zq_am, e_b1, e_b2, x_o1, x_o2, r_O0, q, e, e', w1, w3, w4, w5, w6, l2]
      rw [s4, h_257c m (i + 1) c z1 h0 z4]
      refine congrArg some (congrArg (·, M) ?_)
      show _ = c + ((bif decide (0 < r_G M (1120 + 3 * (i : Int) + 2)) then 1 else 0) + _)
      rw [hx, decide_eq_false e]
      exact congrArg (c + ·) (Int.zero_add _).symm
end
section
/-! count: the reference's DEAD -/
theorem h_bz {i : Nat} {c : Int} (hi : i < 40) (h0 : 0 ≤ c) (h1 : c ≤ i) : e_w ((i : Int) + 1) = ((i + 1 : Nat) : Int) ∧ e_w (c + 1) = c + 1 ∧ e_w c = c ∧ e_w (28 * (i : Int)) = 28 * (i : Int) ∧ e_w (28 * (i : Int) + 19) = 28 * (i : Int) + 19 := ⟨a_w_id (by omega) (by omega), a_w_id (by omega) (by omega), a_w_id (by omega) (by omega), a_w_id (by omega) (by omega), a_w_id (by omega) (by omega)⟩
/-- a step of the loop, values as variables -/
theorem h_257y {w c c' i i' a d : Int} {n : Int} {M : EM} (l : e_op 60 [193, 1198] M = some n) (q : i < n) (t : E_C 170 [192, i] M = some (0, M)) (w1 : e_w (i + 1) = i') (w2 : e_w (c + 1) = c') (w5 : e_w (28 * i) = a) (w6 : e_w (a + 19) = d) (l2 : e_op 60 [193, d] M = some 1) : E_V 257 104 [192, w, c, i] M = E_V 257 104 [192, w, c', i'] M := by
  rw [E_V_eq]
  show e_tv E_C (E_V 257) e_t257_104 [192, w, c, i] M = _
  unfold e_t257_104
  simp [zq_a, zq_b, zq_c, zq_d, zq_e, zq_f, zq_g, zq_h, zq_i, zq_j, zq_k, zq_l, zq_m, zq_n, zq_o, zq_p, zq_q, zq_r, zq_s, zq_t, zq_u, zq_v, zq_w, zq_x, zq_y, zq_z, zq_A, zq_B, zq_C, zq_D, zq_E, zq_F, zq_G, zq_H, zq_I, zq_J, zq_K, zq_L, ↓zq_M, ↓zq_N, ↓zq_O, ↓zq_P, ↓zq_Q, ↓zq_R, zq_S, zq_T, zq_U, zq_V, zq_W, zq_X, zq_Y, zq_Z, zq_0, zq_1, zq_2, zq_3, zq_4, zq_5, ↓zq_6, ↓zq_7, ↓zq_8, ↓zq_9, ↓zq_aa, zq_ab, zq_ac, zq_ad, zq_ae, zq_af, zq_ag, ↓zq_ah, ↓zq_ai, ↓zq_aj, zq_ak, ↓zq_al, ↓zq_am, e_b1, e_b2, x_o1, x_o2, r_O0, l, q, t, w1, w2, w5, w6, l2]
theorem h_257z {w c i i' a d x : Int} {n : Int} {M : EM} (l : e_op 60 [193, 1198] M = some n) (q : i < n) (t : E_C 170 [192, i] M = some (0, M)) (w1 : e_w (i + 1) = i') (w4 : e_w c = c) (w5 : e_w (28 * i) = a) (w6 : e_w (a + 19) = d) (l2 : e_op 60 [193, d] M = some x) (hx : x ≠ 1) : E_V 257 104 [192, w, c, i] M = E_V 257 104 [192, w, c, i'] M := by
  rw [E_V_eq]
  show e_tv E_C (E_V 257) e_t257_104 [192, w, c, i] M = _
  unfold e_t257_104
  simp [zq_a, zq_b, zq_c, zq_d, zq_e, zq_f, zq_g, zq_h, zq_i, zq_j, zq_k, zq_l, zq_m, zq_n, zq_o, zq_p, zq_q, zq_r, zq_s, zq_t, zq_u, zq_v, zq_w, zq_x, zq_y, zq_z, zq_A, zq_B, zq_C, zq_D, zq_E, zq_F, zq_G, zq_H, zq_I, zq_J, zq_K, zq_L, ↓zq_M, ↓zq_N, ↓zq_O, ↓zq_P, ↓zq_Q, ↓zq_R, zq_S, zq_T, zq_U, zq_V, zq_W, zq_X, zq_Y, zq_Z, zq_0, zq_1, zq_2, zq_3, zq_4, zq_5, ↓zq_6, ↓zq_7, ↓zq_8, ↓zq_9, ↓zq_aa, zq_ab, zq_ac, zq_ad, zq_ae, zq_af, zq_ag, ↓zq_ah, ↓zq_ai, ↓zq_aj, zq_ak, ↓zq_al, ↓zq_am, e_b1, e_b2, x_o1, x_o2, r_O0, l, q, t, w1, w4, w5, w6, l2, hx]
theorem h_257n {w c i i' k : Int} {n : Int} {M : EM} (l : e_op 60 [193, 1198] M = some n) (q : i < n) (t : E_C 170 [192, i] M = some (k, M)) (hk : k ≠ 0) (w1 : e_w (i + 1) = i') (w4 : e_w c = c) : E_V 257 104 [192, w, c, i] M = E_V 257 104 [192, w, c, i'] M := by
  rw [E_V_eq]
  show e_tv E_C (E_V 257) e_t257_104 [192, w, c, i] M = _
  unfold e_t257_104
  simp [zq_a, zq_b, zq_c, zq_d, zq_e, zq_f, zq_g, zq_h, zq_i, zq_j, zq_k, zq_l, zq_m, zq_n, zq_o, zq_p, zq_q, zq_r, zq_s, zq_t, zq_u, zq_v, zq_w, zq_x, zq_y, zq_z, zq_A, zq_B, zq_C, zq_D, zq_E, zq_F, zq_G, zq_H, zq_I, zq_J, zq_K, zq_L, ↓zq_M, ↓zq_N, ↓zq_O, ↓zq_P, ↓zq_Q, ↓zq_R, zq_S, zq_T, zq_U, zq_V, zq_W, zq_X, zq_Y, zq_Z, zq_0, zq_1, zq_2, zq_3, zq_4, zq_5, ↓zq_6, ↓zq_7, ↓zq_8, ↓zq_9, ↓zq_aa, zq_ab, zq_ac, zq_ad, zq_ae, zq_af, zq_ag, ↓zq_ah, ↓zq_ai, ↓zq_aj, zq_ak, ↓zq_al, ↓zq_am, e_b1, e_b2, x_o1, x_o2, r_O0, l, q, t, hk, w1, w4]
theorem h_257e {w c i : Int} {M : EM} (l : e_op 60 [193, 1198] M = some i) : E_V 257 104 [192, w, c, i] M = some (c, M) := by
  rw [E_V_eq]
  show e_tv E_C (E_V 257) e_t257_104 [192, w, c, i] M = _
  unfold e_t257_104
  simp [zq_a, zq_b, zq_c, zq_d, zq_e, zq_f, zq_g, zq_h, zq_i, zq_j, zq_k, zq_l, zq_m, zq_n, zq_o, zq_p, zq_q, zq_r, zq_s, zq_t, zq_u, zq_v, zq_w, zq_x, zq_y, zq_z, zq_A, zq_B, zq_C, zq_D, zq_E, zq_F, zq_G, zq_H, zq_I, zq_J, zq_K, zq_L, ↓zq_M, ↓zq_N, ↓zq_O, ↓zq_P, ↓zq_Q, ↓zq_R, zq_S, zq_T, zq_U, zq_V, zq_W, zq_X, zq_Y, zq_Z, zq_0, zq_1, zq_2, zq_3, zq_4, zq_5, ↓zq_6, ↓zq_7, ↓zq_8, ↓zq_9, ↓zq_aa, zq_ab, zq_ac, zq_ad, zq_ae, zq_af, zq_ag, ↓zq_ah, ↓zq_ai, ↓zq_aj, zq_ak, ↓zq_al, ↓zq_am, e_b1, e_b2, x_o1, x_o2, r_O0, l]
def h_dd (g : Int → Int) (j : Nat) : Bool := decide (g (28 * (j : Int)) = 0) && decide (g (28 * (j : Int) + 19) = 1)
theorem h_257b {w : Int} {n : Nat} {M : EM} (hn : r_G M 1198 = n) (h40 : n ≤ 40) : ∀ (m i : Nat) (c : Int), i + m = n → 0 ≤ c → c ≤ i → E_V 257 104 [192, w, c, (i : Int)] M = some (c + h_cnt (h_dd (r_G M)) m i, M) := by
  have l : e_op 60 [193, 1198] M = some (n : Int) := (r_rd (by decide) (by decide)).trans (congrArg some hn)
  intro m
  induction m with
  | zero =>
    intro i c hm h0 h1
    have e : i = n := by omega
    subst e
    rw [h_257e l]
    exact congrArg some (congrArg (·, M) (Int.add_zero c).symm)
  | succ m ih =>
    intro i c hm h0 h1
    obtain ⟨z1, z2, z3, z4⟩ := h_cz hm h0 h1
    have hi : i < 40 := by omega
    have q : (i : Int) < (n : Int) := by omega
    have t : E_C 170 [192, (i : Int)] M = some (r_G M (28 * (i : Int)), M) := r_kind ⟨by omega, by omega⟩
    have l2 : e_op 60 [193, 28 * (i : Int) + 19] M = some (r_G M (28 * (i : Int) + 19)) := r_rd (by omega) (by omega)
    obtain ⟨w1, w2, w4, w5, w6⟩ := h_bz (i := i) (c := c) hi h0 h1
    have no : h_dd (r_G M) i = false → E_V 257 104 [192, w, c, (i : Int)] M = E_V 257 104 [192, w, c, ((i + 1 : Nat) : Int)] M → E_V 257 104 [192, w, c, (i : Int)] M = some (c + h_cnt (h_dd (r_G M)) (m + 1) i, M) := fun e s4 => by
      rw [s4, ih (i + 1) c z1 h0 z4]
      refine congrArg some (congrArg (·, M) ?_)
      show _ = c + ((bif h_dd (r_G M) i then 1 else 0) + _)
      rw [e]
      exact congrArg (c + ·) (Int.zero_add _).symm
    by_cases e : r_G M (28 * (i : Int)) = 0
    · rw [e] at t
      by_cases e2 : r_G M (28 * (i : Int) + 19) = 1
      · rw [e2] at l2
        rw [h_257y l q t w1 w2 w5 w6 l2, ih (i + 1) (c + 1) z1 z2 z3]
        refine congrArg some (congrArg (·, M) ?_)
        show _ = c + ((bif h_dd (r_G M) i then 1 else 0) + _)
        rw [show h_dd (r_G M) i = true from Bool.and_eq_true_iff.mpr ⟨decide_eq_true e, decide_eq_true e2⟩]
        exact Int.add_assoc _ _ _
      · exact no (by unfold h_dd; rw [decide_eq_false e2, Bool.and_false]) (h_257z l q t w1 w4 w5 w6 l2 e2)
    · exact no (by unfold h_dd; rw [decide_eq_false e, Bool.false_and]) (h_257n l q t e w1 w4)
end
section
/-! count: the pair -/
theorem h_390 (M : EM) : e_gf 390 [26] M = some (M 26 6) := c_gf (by decide +kernel) (by decide +kernel)
theorem h_138s {w : Int} {M : EM} : E_C 138 [8, w] M = e_tv E_C (E_V 138) e_t138_0 [8, w] M := r_ent (u := 138) (as := [8, w]) (M := M) (decide_eq_true c_this)
theorem h_138n {w : Int} {M : EM} (h : w < 0 ∨ 8 < w) : E_C 138 [8, w] M = some (-1, M) := by
  rw [h_138s]
  unfold e_t138_0
  rcases x_le 0 w with ⟨c, c_n⟩ | ⟨c, c_n⟩
  · have c2 : 8 < w := by omega
    have c3 : ¬ w ≤ 8 := by omega
    simp [zq_a, zq_b, zq_c, zq_d, zq_e, zq_f, zq_g, zq_h, zq_i, zq_j, zq_k, zq_l, zq_m, zq_n, zq_o, zq_p, zq_q, zq_r, zq_s, zq_t, zq_u, zq_v, zq_w, zq_x, zq_y, zq_z, zq_A, zq_B, zq_C, zq_D, zq_E, zq_F, zq_G, zq_H, zq_I, zq_J, zq_K, zq_L, ↓zq_M, ↓zq_N, ↓zq_O, ↓zq_P, ↓zq_Q, ↓zq_R, zq_S, zq_T, zq_U, zq_V, zq_W, zq_X, zq_Y, zq_Z, zq_0, zq_1, zq_2, zq_3, zq_4, zq_5, ↓zq_6, ↓zq_7, ↓zq_8, ↓zq_9, ↓zq_aa, zq_ab, zq_ac, zq_ad, zq_ae, zq_af, zq_ag, ↓zq_ah, ↓zq_ai, ↓zq_aj, zq_ak, ↓zq_al, ↓zq_am, e_b1, e_b2, x_o1, x_o2, c, c_n, c2, c3]
  · simp [zq_a, zq_b, zq_c, zq_d, zq_e, zq_f, zq_g, zq_h, zq_i, zq_j, zq_k, zq_l, zq_m, zq_n, zq_o, zq_p, zq_q, zq_r, zq_s, zq_t, zq_u, zq_v, zq_w, zq_x, zq_y, zq_z, zq_A, zq_B, zq_C, zq_D, zq_E, zq_F, zq_G, zq_H, zq_I, zq_J, zq_K, zq_L, ↓zq_M, ↓zq_N, ↓zq_O, ↓zq_P, ↓zq_Q, ↓zq_R, zq_S, zq_T, zq_U, zq_V, zq_W, zq_X, zq_Y, zq_Z, zq_0, zq_1, zq_2, zq_3, zq_4, zq_5, ↓zq_6, ↓zq_7, ↓zq_8, ↓zq_9, ↓zq_aa, zq_ab, zq_ac, zq_ad, zq_ae, zq_af, zq_ag, ↓zq_ah, ↓zq_ai, ↓zq_aj, zq_ak, ↓zq_al, ↓zq_am, e_b1, e_b2, x_o1, x_o2, c, c_n]
theorem h_138_0 {M : EM} : E_C 138 [8, 0] M = some (M 10 0, M) := by
  rw [h_138s]
  unfold e_t138_0
  have f := w_P0 M
  simp [zq_a, zq_b, zq_c, zq_d, zq_e, zq_f, zq_g, zq_h, zq_i, zq_j, zq_k, zq_l, zq_m, zq_n, zq_o, zq_p, zq_q, zq_r, zq_s, zq_t, zq_u, zq_v, zq_w, zq_x, zq_y, zq_z, zq_A, zq_B, zq_C, zq_D, zq_E, zq_F, zq_G, zq_H, zq_I, zq_J, zq_K, zq_L, ↓zq_M, ↓zq_N, ↓zq_O, ↓zq_P, ↓zq_Q, ↓zq_R, zq_S, zq_T, zq_U, zq_V, zq_W, zq_X, zq_Y, zq_Z, zq_0, zq_1, zq_2, zq_3, zq_4, zq_5, ↓zq_6, ↓zq_7, ↓zq_8, ↓zq_9, ↓zq_aa, zq_ab, zq_ac, zq_ad, zq_ae, zq_af, zq_ag, ↓zq_ah, ↓zq_ai, ↓zq_aj, zq_ak, ↓zq_al, ↓zq_am, e_b1, e_b2, x_o1, x_o2, p_704, w_H0, f]
theorem h_138_a {w r : Int} {M : EM} (h : 1 ≤ w ∧ w ≤ 4) (k : E_C 56 [10, w - 1] M = some (r, M)) : E_C 138 [8, w] M = some (r, M) := by
  rw [h_138s]
  unfold e_t138_0
  have w3 : e_w (w - 1) = w - 1 := a_w_id (by omega) (by omega)
  have c1 : 0 ≤ w := by omega
  have c1' : ¬ w < 0 := by omega
  have c2 : ¬ 8 < w := by omega
  have c2' : w ≤ 8 := by omega
  have c3 : w ≠ 0 := by omega
  have c4 : w ≤ 4 := by omega
  have c4' : ¬ 4 < w := by omega
  simp [zq_a, zq_b, zq_c, zq_d, zq_e, zq_f, zq_g, zq_h, zq_i, zq_j, zq_k, zq_l, zq_m, zq_n, zq_o, zq_p, zq_q, zq_r, zq_s, zq_t, zq_u, zq_v, zq_w, zq_x, zq_y, zq_z, zq_A, zq_B, zq_C, zq_D, zq_E, zq_F, zq_G, zq_H, zq_I, zq_J, zq_K, zq_L, ↓zq_M, ↓zq_N, ↓zq_O, ↓zq_P, ↓zq_Q, ↓zq_R, zq_S, zq_T, zq_U, zq_V, zq_W, zq_X, zq_Y, zq_Z, zq_0, zq_1, zq_2, zq_3, zq_4, zq_5, ↓zq_6, ↓zq_7, ↓zq_8, ↓zq_9, ↓zq_aa, zq_ab, zq_ac, zq_ad, zq_ae, zq_af, zq_ag, ↓zq_ah, ↓zq_ai, ↓zq_aj, zq_ak, ↓zq_al, ↓zq_am, e_b1, e_b2, x_o1, x_o2, p_704, w_H0, w3, c1, c1', c2, c2', c3, c4, c4', k]
theorem h_138_5 {r : Int} {M : EM} (k : E_C 39 [18, 10] M = some (r, M)) : E_C 138 [8, 5] M = some (r, M) := by
  rw [h_138s]
  unfold e_t138_0
  simp [zq_a, zq_b, zq_c, zq_d, zq_e, zq_f, zq_g, zq_h, zq_i, zq_j, zq_k, zq_l, zq_m, zq_n, zq_o, zq_p, zq_q, zq_r, zq_s, zq_t, zq_u, zq_v, zq_w, zq_x, zq_y, zq_z, zq_A, zq_B, zq_C, zq_D, zq_E, zq_F, zq_G, zq_H, zq_I, zq_J, zq_K, zq_L, ↓zq_M, ↓zq_N, ↓zq_O, ↓zq_P, ↓zq_Q, ↓zq_R, zq_S, zq_T, zq_U, zq_V, zq_W, zq_X, zq_Y, zq_Z, zq_0, zq_1, zq_2, zq_3, zq_4, zq_5, ↓zq_6, ↓zq_7, ↓zq_8, ↓zq_9, ↓zq_aa, zq_ab, zq_ac, zq_ad, zq_ae, zq_af, zq_ag, ↓zq_ah, ↓zq_ai, ↓zq_aj, zq_ak, ↓zq_al, ↓zq_am, e_b1, e_b2, x_o1, x_o2, p_704, w_H0, w_H1, k]
theorem h_138_6 {r : Int} {M : EM} (k : E_C 73 [26] M = some (r, M)) : E_C 138 [8, 6] M = some (r, M) := by
  rw [h_138s]
  unfold e_t138_0
  simp [zq_a, zq_b, zq_c, zq_d, zq_e, zq_f, zq_g, zq_h, zq_i, zq_j, zq_k, zq_l, zq_m, zq_n, zq_o, zq_p, zq_q, zq_r, zq_s, zq_t, zq_u, zq_v, zq_w, zq_x, zq_y, zq_z, zq_A, zq_B, zq_C, zq_D, zq_E, zq_F, zq_G, zq_H, zq_I, zq_J, zq_K, zq_L, ↓zq_M, ↓zq_N, ↓zq_O, ↓zq_P, ↓zq_Q, ↓zq_R, zq_S, zq_T, zq_U, zq_V, zq_W, zq_X, zq_Y, zq_Z, zq_0, zq_1, zq_2, zq_3, zq_4, zq_5, ↓zq_6, ↓zq_7, ↓zq_8, ↓zq_9, ↓zq_aa, zq_ab, zq_ac, zq_ad, zq_ae, zq_af, zq_ag, ↓zq_ah, ↓zq_ai, ↓zq_aj, zq_ak, ↓zq_al, ↓zq_am, e_b1, e_b2, x_o1, x_o2, p_704, p_195, k]
theorem h_138_7 {M : EM} : E_C 138 [8, 7] M = some (M 26 6, M) := by
  rw [h_138s]
  unfold e_t138_0
  have f := h_390 M
  simp [zq_a, zq_b, zq_c, zq_d, zq_e, zq_f, zq_g, zq_h, zq_i, zq_j, zq_k, zq_l, zq_m, zq_n, zq_o, zq_p, zq_q, zq_r, zq_s, zq_t, zq_u, zq_v, zq_w, zq_x, zq_y, zq_z, zq_A, zq_B, zq_C, zq_D, zq_E, zq_F, zq_G, zq_H, zq_I, zq_J, zq_K, zq_L, ↓zq_M, ↓zq_N, ↓zq_O, ↓zq_P, ↓zq_Q, ↓zq_R, zq_S, zq_T, zq_U, zq_V, zq_W, zq_X, zq_Y, zq_Z, zq_0, zq_1, zq_2, zq_3, zq_4, zq_5, ↓zq_6, ↓zq_7, ↓zq_8, ↓zq_9, ↓zq_aa, zq_ab, zq_ac, zq_ad, zq_ae, zq_af, zq_ag, ↓zq_ah, ↓zq_ai, ↓zq_aj, zq_ak, ↓zq_al, ↓zq_am, e_b1, e_b2, x_o1, x_o2, p_704, p_195, f]
theorem h_138_8 {M : EM} : E_C 138 [8, 8] M = some (M 33 2, M) := by
  rw [h_138s]
  unfold e_t138_0
  have f := p_578 M
  simp [zq_a, zq_b, zq_c, zq_d, zq_e, zq_f, zq_g, zq_h, zq_i, zq_j, zq_k, zq_l, zq_m, zq_n, zq_o, zq_p, zq_q, zq_r, zq_s, zq_t, zq_u, zq_v, zq_w, zq_x, zq_y, zq_z, zq_A, zq_B, zq_C, zq_D, zq_E, zq_F, zq_G, zq_H, zq_I, zq_J, zq_K, zq_L, ↓zq_M, ↓zq_N, ↓zq_O, ↓zq_P, ↓zq_Q, ↓zq_R, zq_S, zq_T, zq_U, zq_V, zq_W, zq_X, zq_Y, zq_Z, zq_0, zq_1, zq_2, zq_3, zq_4, zq_5, ↓zq_6, ↓zq_7, ↓zq_8, ↓zq_9, ↓zq_aa, zq_ab, zq_ac, zq_ad, zq_ae, zq_af, zq_ag, ↓zq_ah, ↓zq_ai, ↓zq_aj, zq_ak, ↓zq_al, ↓zq_am, e_b1, e_b2, x_o1, x_o2, p_704, p_196, f]
theorem h_257s {w : Int} {M : EM} : E_C 257 [192, w] M = E_V 257 (if w < 0 ∨ 9 ≤ w then 215 else e_nth (.add (.num 52) (.add (.num 61) (.add (.num 61) (.add (.num 61) (.add (.num 61) (.add (.num 102) (.add (.num 156) (.add (.num 197) (.add (.num 206) (.num 215)))))))))) (w - 0).toNat) [192, w, 0, 0] M := by
  have h1 : E_C 257 [192, w] M = e_tv E_C (E_V 257) e_t257_0 [192, w, 0, 0] M := by
    unfold E_C
    rw [if_pos (show e_rok 257 [192, w] = true from decide_eq_true r_ref), E_V_eq]
    rfl
  rw [h1]
  unfold e_t257_0
  rfl
theorem h_257o {w r : Int} {M : EM} {l : Nat} (q : ¬ (w < 0 ∨ 9 ≤ w)) (e : e_nth (.add (.num 52) (.add (.num 61) (.add (.num 61) (.add (.num 61) (.add (.num 61) (.add (.num 102) (.add (.num 156) (.add (.num 197) (.add (.num 206) (.num 215)))))))))) (w - 0).toNat = l) (k : E_V 257 l [192, w, 0, 0] M = some (r, M)) : E_C 257 [192, w] M = some (r, M) := by
  rw [h_257s, if_neg q, e]
  exact k
theorem h_257n' {w : Int} {M : EM} (h : w < 0 ∨ 9 ≤ w) : E_C 257 [192, w] M = some (-1, M) := by
  rw [h_257s, if_pos h]
  rw [E_V_eq]
  show e_tv E_C (E_V 257) e_t257_215 [192, w, 0, 0] M = _
  unfold e_t257_215
  simp [zq_a, zq_b, zq_c, zq_d, zq_e, zq_f, zq_g, zq_h, zq_i, zq_j, zq_k, zq_l, zq_m, zq_n, zq_o, zq_p, zq_q, zq_r, zq_s, zq_t, zq_u, zq_v, zq_w, zq_x, zq_y, zq_z, zq_A, zq_B, zq_C, zq_D, zq_E, zq_F, zq_G, zq_H, zq_I, zq_J, zq_K, zq_L, ↓zq_M, ↓zq_N, ↓zq_O, ↓zq_P, ↓zq_Q, ↓zq_R, zq_S, zq_T, zq_U, zq_V, zq_W, zq_X, zq_Y, zq_Z, zq_0, zq_1, zq_2, zq_3, zq_4, zq_5, ↓zq_6, ↓zq_7, ↓zq_8, ↓zq_9, ↓zq_aa, zq_ab, zq_ac, zq_ad, zq_ae, zq_af, zq_ag, ↓zq_ah, ↓zq_ai, ↓zq_aj, zq_ak, ↓zq_al, ↓zq_am, e_b1, e_b2, x_o1, x_o2]
theorem h_257_0 {M : EM} : E_C 257 [192, 0] M = some (r_G M 1198, M) := by
  refine h_257o (l := 52) (by decide) (by decide +kernel) ?_
  have l : e_op 60 [193, 1198] M = some (r_G M 1198) := r_rd (by decide) (by decide)
  rw [E_V_eq]
  show e_tv E_C (E_V 257) e_t257_52 [192, 0, 0, 0] M = _
  unfold e_t257_52
  simp [zq_a, zq_b, zq_c, zq_d, zq_e, zq_f, zq_g, zq_h, zq_i, zq_j, zq_k, zq_l, zq_m, zq_n, zq_o, zq_p, zq_q, zq_r, zq_s, zq_t, zq_u, zq_v, zq_w, zq_x, zq_y, zq_z, zq_A, zq_B, zq_C, zq_D, zq_E, zq_F, zq_G, zq_H, zq_I, zq_J, zq_K, zq_L, ↓zq_M, ↓zq_N, ↓zq_O, ↓zq_P, ↓zq_Q, ↓zq_R, zq_S, zq_T, zq_U, zq_V, zq_W, zq_X, zq_Y, zq_Z, zq_0, zq_1, zq_2, zq_3, zq_4, zq_5, ↓zq_6, ↓zq_7, ↓zq_8, ↓zq_9, ↓zq_aa, zq_ab, zq_ac, zq_ad, zq_ae, zq_af, zq_ag, ↓zq_ah, ↓zq_ai, ↓zq_aj, zq_ak, ↓zq_al, ↓zq_am, e_b1, e_b2, x_o1, x_o2, r_O0, l]
theorem h_257_a {w : Int} {n : Nat} {M : EM} (h : 1 ≤ w ∧ w ≤ 4) (hn : r_G M 1198 = n) (h40 : n ≤ 40) : E_C 257 [192, w] M = some (h_cnt (fun j => decide (r_G M (28 * (j : Int)) = w - 1)) n 0, M) := by
  have k := h_257a h hn h40 n 0 0 (by omega) (by decide) (by decide)
  rw [Int.zero_add] at k
  have k' : E_V 257 63 [192, w, 0, 0] M = some (h_cnt (fun j => decide (r_G M (28 * (j : Int)) = w - 1)) n 0, M) := k
  have k2 : E_V 257 61 [192, w, 0, 0] M = some (h_cnt (fun j => decide (r_G M (28 * (j : Int)) = w - 1)) n 0, M) := by
    rw [E_V_eq]
    show e_tv E_C (E_V 257) e_t257_61 [192, w, 0, 0] M = _
    unfold e_t257_61
    simp [zq_a, zq_b, zq_c, zq_d, zq_e, zq_f, zq_g, zq_h, zq_i, zq_j, zq_k, zq_l, zq_m, zq_n, zq_o, zq_p, zq_q, zq_r, zq_s, zq_t, zq_u, zq_v, zq_w, zq_x, zq_y, zq_z, zq_A, zq_B, zq_C, zq_D, zq_E, zq_F, zq_G, zq_H, zq_I, zq_J, zq_K, zq_L, ↓zq_M, ↓zq_N, ↓zq_O, ↓zq_P, ↓zq_Q, ↓zq_R, zq_S, zq_T, zq_U, zq_V, zq_W, zq_X, zq_Y, zq_Z, zq_0, zq_1, zq_2, zq_3, zq_4, zq_5, ↓zq_6, ↓zq_7, ↓zq_8, ↓zq_9, ↓zq_aa, zq_ab, zq_ac, zq_ad, zq_ae, zq_af, zq_ag, ↓zq_ah, ↓zq_ai, ↓zq_aj, zq_ak, ↓zq_al, ↓zq_am, e_b1, e_b2, x_o1, x_o2, k']
  refine h_257o (l := 61) (by omega) ?_ k2
  have h9 : w = 1 ∨ w = 2 ∨ w = 3 ∨ w = 4 := by omega
  rcases h9 with rfl | rfl | rfl | rfl <;> decide +kernel
theorem h_257_5 {n : Nat} {M : EM} (hn : r_G M 1198 = n) (h40 : n ≤ 40) : E_C 257 [192, 5] M = some (h_cnt (h_dd (r_G M)) n 0, M) := by
  have k := h_257b (w := 5) hn h40 n 0 0 (by omega) (by decide) (by decide)
  rw [Int.zero_add] at k
  have k' : E_V 257 104 [192, 5, 0, 0] M = some (h_cnt (h_dd (r_G M)) n 0, M) := k
  refine h_257o (l := 102) (by decide) (by decide +kernel) ?_
  rw [E_V_eq]
  show e_tv E_C (E_V 257) e_t257_102 [192, 5, 0, 0] M = _
  unfold e_t257_102
  simp [zq_a, zq_b, zq_c, zq_d, zq_e, zq_f, zq_g, zq_h, zq_i, zq_j, zq_k, zq_l, zq_m, zq_n, zq_o, zq_p, zq_q, zq_r, zq_s, zq_t, zq_u, zq_v, zq_w, zq_x, zq_y, zq_z, zq_A, zq_B, zq_C, zq_D, zq_E, zq_F, zq_G, zq_H, zq_I, zq_J, zq_K, zq_L, ↓zq_M, ↓zq_N, ↓zq_O, ↓zq_P, ↓zq_Q, ↓zq_R, zq_S, zq_T, zq_U, zq_V, zq_W, zq_X, zq_Y, zq_Z, zq_0, zq_1, zq_2, zq_3, zq_4, zq_5, ↓zq_6, ↓zq_7, ↓zq_8, ↓zq_9, ↓zq_aa, zq_ab, zq_ac, zq_ad, zq_ae, zq_af, zq_ag, ↓zq_ah, ↓zq_ai, ↓zq_aj, zq_ak, ↓zq_al, ↓zq_am, e_b1, e_b2, x_o1, x_o2, k']
theorem h_257_6 {M : EM} : E_C 257 [192, 6] M = some (h_cnt (fun j => decide (0 < r_G M (1120 + 3 * (j : Int) + 2))) 10 0, M) := by
  have k := h_257c (w := 6) (M := M) 10 0 0 (by omega) (by decide) (by decide)
  rw [Int.zero_add] at k
  have k' : E_V 257 158 [192, 6, 0, 0] M = some (h_cnt (fun j => decide (0 < r_G M (1120 + 3 * (j : Int) + 2))) 10 0, M) := k
  refine h_257o (l := 156) (by decide) (by decide +kernel) ?_
  rw [E_V_eq]
  show e_tv E_C (E_V 257) e_t257_156 [192, 6, 0, 0] M = _
  unfold e_t257_156
  simp [zq_a, zq_b, zq_c, zq_d, zq_e, zq_f, zq_g, zq_h, zq_i, zq_j, zq_k, zq_l, zq_m, zq_n, zq_o, zq_p, zq_q, zq_r, zq_s, zq_t, zq_u, zq_v, zq_w, zq_x, zq_y, zq_z, zq_A, zq_B, zq_C, zq_D, zq_E, zq_F, zq_G, zq_H, zq_I, zq_J, zq_K, zq_L, ↓zq_M, ↓zq_N, ↓zq_O, ↓zq_P, ↓zq_Q, ↓zq_R, zq_S, zq_T, zq_U, zq_V, zq_W, zq_X, zq_Y, zq_Z, zq_0, zq_1, zq_2, zq_3, zq_4, zq_5, ↓zq_6, ↓zq_7, ↓zq_8, ↓zq_9, ↓zq_aa, zq_ab, zq_ac, zq_ad, zq_ae, zq_af, zq_ag, ↓zq_ah, ↓zq_ai, ↓zq_aj, zq_ak, ↓zq_al, ↓zq_am, e_b1, e_b2, x_o1, x_o2, k']
theorem h_257_7 {M : EM} : E_C 257 [192, 7] M = some (r_G M 1200, M) := by
  refine h_257o (l := 197) (by decide) (by decide +kernel) ?_
  have l : e_op 60 [193, 1200] M = some (r_G M 1200) := r_rd (by decide) (by decide)
  rw [E_V_eq]
  show e_tv E_C (E_V 257) e_t257_197 [192, 7, 0, 0] M = _
  unfold e_t257_197
  simp [zq_a, zq_b, zq_c, zq_d, zq_e, zq_f, zq_g, zq_h, zq_i, zq_j, zq_k, zq_l, zq_m, zq_n, zq_o, zq_p, zq_q, zq_r, zq_s, zq_t, zq_u, zq_v, zq_w, zq_x, zq_y, zq_z, zq_A, zq_B, zq_C, zq_D, zq_E, zq_F, zq_G, zq_H, zq_I, zq_J, zq_K, zq_L, ↓zq_M, ↓zq_N, ↓zq_O, ↓zq_P, ↓zq_Q, ↓zq_R, zq_S, zq_T, zq_U, zq_V, zq_W, zq_X, zq_Y, zq_Z, zq_0, zq_1, zq_2, zq_3, zq_4, zq_5, ↓zq_6, ↓zq_7, ↓zq_8, ↓zq_9, ↓zq_aa, zq_ab, zq_ac, zq_ad, zq_ae, zq_af, zq_ag, ↓zq_ah, ↓zq_ai, ↓zq_aj, zq_ak, ↓zq_al, ↓zq_am, e_b1, e_b2, x_o1, x_o2, r_O0, l]
theorem h_257_8 {M : EM} : E_C 257 [192, 8] M = some (r_G M 1199, M) := by
  refine h_257o (l := 206) (by decide) (by decide +kernel) ?_
  have l : e_op 60 [193, 1199] M = some (r_G M 1199) := r_rd (by decide) (by decide)
  rw [E_V_eq]
  show e_tv E_C (E_V 257) e_t257_206 [192, 8, 0, 0] M = _
  unfold e_t257_206
  simp [zq_a, zq_b, zq_c, zq_d, zq_e, zq_f, zq_g, zq_h, zq_i, zq_j, zq_k, zq_l, zq_m, zq_n, zq_o, zq_p, zq_q, zq_r, zq_s, zq_t, zq_u, zq_v, zq_w, zq_x, zq_y, zq_z, zq_A, zq_B, zq_C, zq_D, zq_E, zq_F, zq_G, zq_H, zq_I, zq_J, zq_K, zq_L, ↓zq_M, ↓zq_N, ↓zq_O, ↓zq_P, ↓zq_Q, ↓zq_R, zq_S, zq_T, zq_U, zq_V, zq_W, zq_X, zq_Y, zq_Z, zq_0, zq_1, zq_2, zq_3, zq_4, zq_5, ↓zq_6, ↓zq_7, ↓zq_8, ↓zq_9, ↓zq_aa, zq_ab, zq_ac, zq_ad, zq_ae, zq_af, zq_ag, ↓zq_ah, ↓zq_ai, ↓zq_aj, zq_ak, ↓zq_al, ↓zq_am, e_b1, e_b2, x_o1, x_o2, r_O0, l]
end
section
/-! count: both say the same -/
theorem h_counts {w r1 r2 : Int} {M M1 M2 : EM} (hB : h_B M 0 (r_G M)) (hC : h_C M 0 (r_G M)) (hR : p_rel M (M 193)) (hs : M 26 6 = r_G M 1200) (k1 : E_C 138 [8, w] M = some (r1, M1)) (k2 : E_C 257 [192, w] M1 = some (r2, M2)) : r1 = r2 ∧ M1 = M ∧ M2 = M := by
  have fin : ∀ r r' : Int, r = r' → E_C 138 [8, w] M = some (r, M) → E_C 257 [192, w] M = some (r', M) → r1 = r2 ∧ M1 = M ∧ M2 = M := fun r r' e t1 t2 => by
    obtain ⟨a1, a2⟩ := Prod.mk.inj (Option.some.inj (k1.symm.trans t1))
    rw [a2] at k2
    obtain ⟨b1, b2⟩ := Prod.mk.inj (Option.some.inj (k2.symm.trans t2))
    exact ⟨a1.trans (e.trans b1.symm), a2, b2⟩
  obtain ⟨n, hn⟩ : ∃ n : Nat, r_G M 1198 = n := ⟨(r_G M 1198).toNat, by have := hB.2.1; omega⟩
  have h40 : n ≤ 40 := by have := hB.2.1; omega
  have h10 : M 10 0 = n := hB.1.trans hn
  have hb : ∀ j : Nat, j < n → M 11 j = r_G M (28 * (j : Int)) := fun j hj => (hB.2.2 j (by omega)).1
  by_cases c0 : w < 0 ∨ 9 ≤ w
  · exact fin _ _ rfl (h_138n (by omega)) (h_257n' c0)
  · by_cases c1 : 1 ≤ w ∧ w ≤ 4
    · refine fin _ _ (h_cnt_cg n 0 (fun j _ hj => ?_)) (h_138_a c1 (h_56 h10 h40)) (h_257_a c1 hn h40)
      rw [hb j (by omega)]
    · have h9 : w = 0 ∨ w = 5 ∨ w = 6 ∨ w = 7 ∨ w = 8 := by omega
      rcases h9 with rfl | rfl | rfl | rfl | rfl
      · exact fin _ _ hB.1 h_138_0 h_257_0
      · refine fin _ _ (h_cnt_cg n 0 (fun j _ hj => ?_)) (h_138_5 (h_39 h10 h40)) (h_257_5 hn h40)
        have hj' : j < n := by omega
        show (decide (M 11 j = 0) && decide (M 22 j ≠ 0)) = (decide (r_G M (28 * (j : Int)) = 0) && decide (r_G M (28 * (j : Int) + 19) = 1))
        rw [hb j hj']
        by_cases e : r_G M (28 * (j : Int)) = 0
        · obtain ⟨-, ⟨d1, d2⟩, -⟩ := hC j (by rw [hn]; exact Int.ofNat_lt.mpr hj') e
          have d1 : M 22 j = r_G M (28 * (j : Int) + 19) := d1
          rw [d1]
          rcases d2 with d2 | d2
          · rw [d2]; rfl
          · rw [d2]; rfl
        · rw [decide_eq_false e, Bool.false_and, Bool.false_and]
      · refine fin _ _ (h_cnt_cg 10 0 (fun j _ hj => ?_)) (h_138_6 h_73) h_257_6
        have e : M 29 j = M 193 (1120 + 3 * j + 2) := hR _ (p_inW j (by omega)).2.2
        have e2 : r_G M (1120 + 3 * (j : Int) + 2) = M 193 (1120 + 3 * j + 2) := congrArg (M 193) (by omega)
        rw [e2, ← e]
      · exact fin _ _ hs h_138_7 h_257_7
      · exact fin _ _ (hR _ p_inR) h_138_8 h_257_8
end
