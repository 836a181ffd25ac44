section
/-! PUSH of GROUPS and ROWS, CURRENTS, by the reference -/
theorem r_lo_p {g : Int → Int} {b x : Int} (hb : b ≤ 40) (hx : r_cl g b x ∨ r_rw g b x) : 0 ≤ x ∧ x < 40 := by
  rcases hx with h | h
  · exact ⟨h.1, by have := h.2.1; omega⟩
  · exact ⟨h.1, by have := h.2.1; omega⟩
theorem r_group_loop {p g c : Int} {M : EM} (hE : r_E M) (hp : 0 ≤ p ∧ p < 40) (hn : r_G M (28 * p + 2) ≤ 8) (hm : ∀ k, 0 ≤ k → k < r_G M (28 * p + 2) → r_cl (r_G M) p (r_G M (28 * p + 3 + k))) : ∀ (m : Nat) (x4 x5 : Int), (8 - x5).toNat ≤ m → 0 ≤ x5 → (-2147483648 ≤ x4 ∧ x4 ≤ 2147483647) → ∃ r, E_V 199 6 [192, p, g, c, x4, x5] M = some (r, M) ∧ -2147483648 ≤ r ∧ r ≤ 2147483647 := by
  have km : E_C 171 [192, p] M = some (r_G M (28 * p + 2), M) := r_many hp
  have hend : ∀ x4 x5, ¬ (x5 < r_G M (28 * p + 2)) → (-2147483648 ≤ x4 ∧ x4 ≤ 2147483647) → ∃ r, E_V 199 6 [192, p, g, c, x4, x5] M = some (r, M) ∧ -2147483648 ≤ r ∧ r ≤ 2147483647 := by
    intro x4 x5 q h4
    refine ⟨x4, ?_, h4⟩
    rw [E_V_eq]
    show e_tv E_C (E_V 199) e_t199_6 [192, p, g, c, x4, x5] M = _
    unfold e_t199_6
    simp [zq_a, zq_b, zq_c, zq_d, zq_e, zq_f, zq_g, zq_h, zq_i, zq_j, zq_k, zq_l, zq_m, zq_n, zq_o, zq_p, zq_q, zq_r, zq_s, zq_t, zq_u, zq_v, zq_w, zq_x, zq_y, zq_z, zq_A, zq_B, zq_C, zq_D, zq_E, zq_F, zq_G, zq_H, zq_I, zq_J, zq_K, zq_L, ↓zq_M, ↓zq_N, ↓zq_O, ↓zq_P, ↓zq_Q, ↓zq_R, zq_S, zq_T, zq_U, zq_V, zq_W, zq_X, zq_Y, zq_Z, zq_0, zq_1, zq_2, zq_3, zq_4, zq_5, ↓zq_6, ↓zq_7, ↓zq_8, ↓zq_9, ↓zq_aa, zq_ab, zq_ac, zq_ad, zq_ae, zq_af, zq_ag, ↓zq_ah, ↓zq_ai, ↓zq_aj, zq_ak, ↓zq_al, ↓zq_am, e_b1, e_b2, x_o1, x_o2, q, km]
  intro m
  induction m with
  | zero => intro x4 x5 h5 h0 h4; exact hend x4 x5 (by omega) h4
  | succ m ih =>
    intro x4 x5 h5 h0 h4
    rcases x_lt x5 (r_G M (28 * p + 2)) with ⟨q, q_n⟩ | ⟨q, q_n⟩
    · have w1 : e_w (28 * p) = 28 * p := a_w_id (by omega) (by omega)
      have w2 : e_w (28 * p + 11) = 28 * p + 11 := a_w_id (by omega) (by omega)
      have w3 : e_w (28 * p + 11 + x5) = 28 * p + 11 + x5 := a_w_id (by omega) (by omega)
      have w4 : e_w (x5 + 1) = x5 + 1 := a_w_id (by omega) (by omega)
      have l1 : e_op 60 [193, 28 * p + 11 + x5] M = some (r_G M (28 * p + 11 + x5)) := r_rd (by omega) (by omega)
      have ko : E_C 172 [192, p, x5] M = some (r_G M (28 * p + 3 + x5), M) := r_of hp ⟨h0, by omega⟩
      obtain ⟨m1, m2, m3, m4, m5, m6⟩ := hm x5 h0 q
      have hy : 0 ≤ r_G M (28 * p + 3 + x5) ∧ r_G M (28 * p + 3 + x5) < 40 := ⟨m1, by omega⟩
      obtain ⟨s, ks, hs⟩ := r_share hE hy m6
      obtain ⟨v, kv, hv⟩ := r_cellPush (c := c) (sh := s) (M := M) hy ⟨m4, m5⟩
      by_cases c1 : r_G M (28 * p + 11 + x5) = g
      · obtain ⟨r, k, hr⟩ := ih (e_w (x4 + v)) (x5 + 1) (by omega) (by omega) (a_w _)
        refine ⟨r, ?_, hr⟩
        rw [E_V_eq]
        show e_tv E_C (E_V 199) e_t199_6 [192, p, g, c, x4, x5] M = _
        unfold e_t199_6
        simp [zq_a, zq_b, zq_c, zq_d, zq_e, zq_f, zq_g, zq_h, zq_i, zq_j, zq_k, zq_l, zq_m, zq_n, zq_o, zq_p, zq_q, zq_r, zq_s, zq_t, zq_u, zq_v, zq_w, zq_x, zq_y, zq_z, zq_A, zq_B, zq_C, zq_D, zq_E, zq_F, zq_G, zq_H, zq_I, zq_J, zq_K, zq_L, ↓zq_M, ↓zq_N, ↓zq_O, ↓zq_P, ↓zq_Q, ↓zq_R, zq_S, zq_T, zq_U, zq_V, zq_W, zq_X, zq_Y, zq_Z, zq_0, zq_1, zq_2, zq_3, zq_4, zq_5, ↓zq_6, ↓zq_7, ↓zq_8, ↓zq_9, ↓zq_aa, zq_ab, zq_ac, zq_ad, zq_ae, zq_af, zq_ag, ↓zq_ah, ↓zq_ai, ↓zq_aj, zq_ak, ↓zq_al, ↓zq_am, e_b1, e_b2, x_o1, x_o2, r_O0, q, q_n, km, w1, w2, w3, w4, l1, ko, ks, kv, c1, k]
      · obtain ⟨r, k, hr⟩ := ih (e_w (x4 + 0)) (x5 + 1) (by omega) (by omega) (a_w _)
        refine ⟨r, ?_, hr⟩
        rw [Int.add_zero] at k
        rw [E_V_eq]
        show e_tv E_C (E_V 199) e_t199_6 [192, p, g, c, x4, x5] M = _
        unfold e_t199_6
        simp [zq_a, zq_b, zq_c, zq_d, zq_e, zq_f, zq_g, zq_h, zq_i, zq_j, zq_k, zq_l, zq_m, zq_n, zq_o, zq_p, zq_q, zq_r, zq_s, zq_t, zq_u, zq_v, zq_w, zq_x, zq_y, zq_z, zq_A, zq_B, zq_C, zq_D, zq_E, zq_F, zq_G, zq_H, zq_I, zq_J, zq_K, zq_L, ↓zq_M, ↓zq_N, ↓zq_O, ↓zq_P, ↓zq_Q, ↓zq_R, zq_S, zq_T, zq_U, zq_V, zq_W, zq_X, zq_Y, zq_Z, zq_0, zq_1, zq_2, zq_3, zq_4, zq_5, ↓zq_6, ↓zq_7, ↓zq_8, ↓zq_9, ↓zq_aa, zq_ab, zq_ac, zq_ad, zq_ae, zq_af, zq_ag, ↓zq_ah, ↓zq_ai, ↓zq_aj, zq_ak, ↓zq_al, ↓zq_am, e_b1, e_b2, x_o1, x_o2, r_O0, q, q_n, km, w1, w2, w3, w4, l1, c1, k]
    · exact hend x4 x5 q h4
theorem r_groupPush {p g c : Int} {M : EM} (hE : r_E M) (hp : 0 ≤ p ∧ p < 40) (hn : r_G M (28 * p + 2) ≤ 8) (hm : ∀ k, 0 ≤ k → k < r_G M (28 * p + 2) → r_cl (r_G M) p (r_G M (28 * p + 3 + k))) : r_P 199 [192, p, g, c] M := by
  obtain ⟨r, k, hr⟩ := r_group_loop (g := g) (c := c) hE hp hn hm 8 0 0 (by decide) (by decide) (by decide)
  refine ⟨r, ?_, hr⟩
  rw [r_ent (show e_rok 199 [192, p, g, c] = true from decide_eq_true r_ref)]
  show e_tv E_C (E_V 199) e_t199_0 [192, p, g, c, 0, 0] M = _
  unfold e_t199_0
  simp [zq_a, zq_b, zq_c, zq_d, zq_e, zq_f, zq_g, zq_h, zq_i, zq_j, zq_k, zq_l, zq_m, zq_n, zq_o, zq_p, zq_q, zq_r, zq_s, zq_t, zq_u, zq_v, zq_w, zq_x, zq_y, zq_z, zq_A, zq_B, zq_C, zq_D, zq_E, zq_F, zq_G, zq_H, zq_I, zq_J, zq_K, zq_L, ↓zq_M, ↓zq_N, ↓zq_O, ↓zq_P, ↓zq_Q, ↓zq_R, zq_S, zq_T, zq_U, zq_V, zq_W, zq_X, zq_Y, zq_Z, zq_0, zq_1, zq_2, zq_3, zq_4, zq_5, ↓zq_6, ↓zq_7, ↓zq_8, ↓zq_9, ↓zq_aa, zq_ab, zq_ac, zq_ad, zq_ae, zq_af, zq_ag, ↓zq_ah, ↓zq_ai, ↓zq_aj, zq_ak, ↓zq_al, ↓zq_am, e_b1, e_b2, x_o1, x_o2, k]
theorem r_hasDiode {p g : Int} {M : EM} (hp : 0 ≤ p ∧ p < 40) (hg : 0 ≤ g ∧ g < 8) : ∃ r, E_C 200 [192, p, g] M = some (r, M) ∧ (r = 0 ∨ r = 1) := by
  have w1 : e_w (28 * p) = 28 * p := a_w_id (by omega) (by omega)
  have w2 : e_w (28 * p + 20) = 28 * p + 20 := a_w_id (by omega) (by omega)
  have w3 : e_w (28 * p + 20 + g) = 28 * p + 20 + g := a_w_id (by omega) (by omega)
  have w4 : e_w (8 * p) = 8 * p := a_w_id (by omega) (by omega)
  have w5 : e_w (8 * p + g) = 8 * p + g := a_w_id (by omega) (by omega)
  have l1 : e_op 60 [193, 28 * p + 20 + g] M = some (r_G M (28 * p + 20 + g)) := r_rd (by omega) (by omega)
  by_cases c1 : r_G M (28 * p + 20 + g) = 1
  · by_cases c2 : M 192 24 = 8 * p + g
    · refine ⟨0, ?_, Or.inl rfl⟩
      rw [r_ent (show e_rok 200 [192, p, g] = true from decide_eq_true r_ref)]
      show e_tv E_C (E_V 200) e_t200_0 [192, p, g] M = _
      unfold e_t200_0
      simp [zq_a, zq_b, zq_c, zq_d, zq_e, zq_f, zq_g, zq_h, zq_i, zq_j, zq_k, zq_l, zq_m, zq_n, zq_o, zq_p, zq_q, zq_r, zq_s, zq_t, zq_u, zq_v, zq_w, zq_x, zq_y, zq_z, zq_A, zq_B, zq_C, zq_D, zq_E, zq_F, zq_G, zq_H, zq_I, zq_J, zq_K, zq_L, ↓zq_M, ↓zq_N, ↓zq_O, ↓zq_P, ↓zq_Q, ↓zq_R, zq_S, zq_T, zq_U, zq_V, zq_W, zq_X, zq_Y, zq_Z, zq_0, zq_1, zq_2, zq_3, zq_4, zq_5, ↓zq_6, ↓zq_7, ↓zq_8, ↓zq_9, ↓zq_aa, zq_ab, zq_ac, zq_ad, zq_ae, zq_af, zq_ag, ↓zq_ah, ↓zq_ai, ↓zq_aj, zq_ak, ↓zq_al, ↓zq_am, e_b1, e_b2, x_o1, x_o2, r_O0, r_F24, w1, w2, w3, w4, w5, l1, c1, c2]
    · refine ⟨1, ?_, Or.inr rfl⟩
      rw [r_ent (show e_rok 200 [192, p, g] = true from decide_eq_true r_ref)]
      show e_tv E_C (E_V 200) e_t200_0 [192, p, g] M = _
      unfold e_t200_0
      simp [zq_a, zq_b, zq_c, zq_d, zq_e, zq_f, zq_g, zq_h, zq_i, zq_j, zq_k, zq_l, zq_m, zq_n, zq_o, zq_p, zq_q, zq_r, zq_s, zq_t, zq_u, zq_v, zq_w, zq_x, zq_y, zq_z, zq_A, zq_B, zq_C, zq_D, zq_E, zq_F, zq_G, zq_H, zq_I, zq_J, zq_K, zq_L, ↓zq_M, ↓zq_N, ↓zq_O, ↓zq_P, ↓zq_Q, ↓zq_R, zq_S, zq_T, zq_U, zq_V, zq_W, zq_X, zq_Y, zq_Z, zq_0, zq_1, zq_2, zq_3, zq_4, zq_5, ↓zq_6, ↓zq_7, ↓zq_8, ↓zq_9, ↓zq_aa, zq_ab, zq_ac, zq_ad, zq_ae, zq_af, zq_ag, ↓zq_ah, ↓zq_ai, ↓zq_aj, zq_ak, ↓zq_al, ↓zq_am, e_b1, e_b2, x_o1, x_o2, r_O0, r_F24, w1, w2, w3, w4, w5, l1, c1, c2]
  · refine ⟨0, ?_, Or.inl rfl⟩
    rw [r_ent (show e_rok 200 [192, p, g] = true from decide_eq_true r_ref)]
    show e_tv E_C (E_V 200) e_t200_0 [192, p, g] M = _
    unfold e_t200_0
    simp [zq_a, zq_b, zq_c, zq_d, zq_e, zq_f, zq_g, zq_h, zq_i, zq_j, zq_k, zq_l, zq_m, zq_n, zq_o, zq_p, zq_q, zq_r, zq_s, zq_t, zq_u, zq_v, zq_w, zq_x, zq_y, zq_z, zq_A, zq_B, zq_C, zq_D, zq_E, zq_F, zq_G, zq_H, zq_I, zq_J, zq_K, zq_L, ↓zq_M, ↓zq_N, ↓zq_O, ↓zq_P, ↓zq_Q, ↓zq_R, zq_S, zq_T, zq_U, zq_V, zq_W, zq_X, zq_Y, zq_Z, zq_0, zq_1, zq_2, zq_3, zq_4, zq_5, ↓zq_6, ↓zq_7, ↓zq_8, ↓zq_9, ↓zq_aa, zq_ab, zq_ac, zq_ad, zq_ae, zq_af, zq_ag, ↓zq_ah, ↓zq_ai, ↓zq_aj, zq_ak, ↓zq_al, ↓zq_am, e_b1, e_b2, x_o1, x_o2, r_O0, w1, w2, w3, l1, c1]
theorem r_low_loop {p c : Int} {M : EM} (hE : r_E M) (hp : 0 ≤ p ∧ p < 40) (hn : r_G M (28 * p + 2) ≤ 8) (hg : r_G M (28 * p + 19) ≤ 8) (hm : ∀ k, 0 ≤ k → k < r_G M (28 * p + 2) → r_cl (r_G M) p (r_G M (28 * p + 3 + k))) : ∀ (m : Nat) (x3 x4 x5 : Int), (8 - x4).toNat ≤ m → 0 ≤ x4 → (-2147483648 ≤ x3 ∧ x3 ≤ 2147483647) → ∃ r, E_V 201 25 [192, p, c, x3, x4, x5] M = some (r, M) ∧ -2147483648 ≤ r ∧ r ≤ 2147483647 := by
  have w1 : e_w (28 * p) = 28 * p := a_w_id (by omega) (by omega)
  have w2 : e_w (28 * p + 19) = 28 * p + 19 := a_w_id (by omega) (by omega)
  have l1 : e_op 60 [193, 28 * p + 19] M = some (r_G M (28 * p + 19)) := r_rd (by omega) (by omega)
  have hend : ∀ x3 x4 x5, ¬ (x4 < r_G M (28 * p + 19)) → (-2147483648 ≤ x3 ∧ x3 ≤ 2147483647) → ∃ r, E_V 201 25 [192, p, c, x3, x4, x5] M = some (r, M) ∧ -2147483648 ≤ r ∧ r ≤ 2147483647 := by
    intro x3 x4 x5 q h4
    refine ⟨x3, ?_, h4⟩
    rw [E_V_eq]
    show e_tv E_C (E_V 201) e_t201_25 [192, p, c, x3, x4, x5] M = _
    unfold e_t201_25
    simp [zq_a, zq_b, zq_c, zq_d, zq_e, zq_f, zq_g, zq_h, zq_i, zq_j, zq_k, zq_l, zq_m, zq_n, zq_o, zq_p, zq_q, zq_r, zq_s, zq_t, zq_u, zq_v, zq_w, zq_x, zq_y, zq_z, zq_A, zq_B, zq_C, zq_D, zq_E, zq_F, zq_G, zq_H, zq_I, zq_J, zq_K, zq_L, ↓zq_M, ↓zq_N, ↓zq_O, ↓zq_P, ↓zq_Q, ↓zq_R, zq_S, zq_T, zq_U, zq_V, zq_W, zq_X, zq_Y, zq_Z, zq_0, zq_1, zq_2, zq_3, zq_4, zq_5, ↓zq_6, ↓zq_7, ↓zq_8, ↓zq_9, ↓zq_aa, zq_ab, zq_ac, zq_ad, zq_ae, zq_af, zq_ag, ↓zq_ah, ↓zq_ai, ↓zq_aj, zq_ak, ↓zq_al, ↓zq_am, e_b1, e_b2, x_o1, x_o2, r_O0, w1, w2, l1, q]
  intro m
  induction m with
  | zero => intro x3 x4 x5 h5 h0 h4; exact hend x3 x4 x5 (by omega) h4
  | succ m ih =>
    intro x3 x4 x5 h5 h0 h4
    rcases x_lt x4 (r_G M (28 * p + 19)) with ⟨q, q_n⟩ | ⟨q, q_n⟩
    · have w4 : e_w (x4 + 1) = x4 + 1 := a_w_id (by omega) (by omega)
      obtain ⟨u, ku, hu⟩ := r_groupPush (g := x4) (c := c) hE hp hn hm
      obtain ⟨d, kd, hd⟩ := r_hasDiode (p := p) (g := x4) (M := M) hp ⟨h0, by omega⟩
      by_cases c1 : d = 0
      · obtain ⟨r, k, hr⟩ := ih (e_w (x3 + u)) (x4 + 1) u (by omega) (by omega) (a_w _)
        refine ⟨r, ?_, hr⟩
        rw [E_V_eq]
        show e_tv E_C (E_V 201) e_t201_25 [192, p, c, x3, x4, x5] M = _
        unfold e_t201_25
        simp [zq_a, zq_b, zq_c, zq_d, zq_e, zq_f, zq_g, zq_h, zq_i, zq_j, zq_k, zq_l, zq_m, zq_n, zq_o, zq_p, zq_q, zq_r, zq_s, zq_t, zq_u, zq_v, zq_w, zq_x, zq_y, zq_z, zq_A, zq_B, zq_C, zq_D, zq_E, zq_F, zq_G, zq_H, zq_I, zq_J, zq_K, zq_L, ↓zq_M, ↓zq_N, ↓zq_O, ↓zq_P, ↓zq_Q, ↓zq_R, zq_S, zq_T, zq_U, zq_V, zq_W, zq_X, zq_Y, zq_Z, zq_0, zq_1, zq_2, zq_3, zq_4, zq_5, ↓zq_6, ↓zq_7, ↓zq_8, ↓zq_9, ↓zq_aa, zq_ab, zq_ac, zq_ad, zq_ae, zq_af, zq_ag, ↓zq_ah, ↓zq_ai, ↓zq_aj, zq_ak, ↓zq_al, ↓zq_am, e_b1, e_b2, x_o1, x_o2, r_O0, q, q_n, w1, w2, w4, l1, ku, kd, c1, k]
      · rcases x_lt u (-1) with ⟨c2, c2_n⟩ | ⟨c2, c2_n⟩
        · obtain ⟨r, k, hr⟩ := ih (e_w (x3 + -1)) (x4 + 1) u (by omega) (by omega) (a_w _)
          refine ⟨r, ?_, hr⟩
          rw [E_V_eq]
          show e_tv E_C (E_V 201) e_t201_25 [192, p, c, x3, x4, x5] M = _
          unfold e_t201_25
          simp [zq_a, zq_b, zq_c, zq_d, zq_e, zq_f, zq_g, zq_h, zq_i, zq_j, zq_k, zq_l, zq_m, zq_n, zq_o, zq_p, zq_q, zq_r, zq_s, zq_t, zq_u, zq_v, zq_w, zq_x, zq_y, zq_z, zq_A, zq_B, zq_C, zq_D, zq_E, zq_F, zq_G, zq_H, zq_I, zq_J, zq_K, zq_L, ↓zq_M, ↓zq_N, ↓zq_O, ↓zq_P, ↓zq_Q, ↓zq_R, zq_S, zq_T, zq_U, zq_V, zq_W, zq_X, zq_Y, zq_Z, zq_0, zq_1, zq_2, zq_3, zq_4, zq_5, ↓zq_6, ↓zq_7, ↓zq_8, ↓zq_9, ↓zq_aa, zq_ab, zq_ac, zq_ad, zq_ae, zq_af, zq_ag, ↓zq_ah, ↓zq_ai, ↓zq_aj, zq_ak, ↓zq_al, ↓zq_am, e_b1, e_b2, x_o1, x_o2, r_O0, q, q_n, w1, w2, w4, l1, ku, kd, c1, c2, c2_n, k]
        · obtain ⟨r, k, hr⟩ := ih (e_w (x3 + u)) (x4 + 1) u (by omega) (by omega) (a_w _)
          refine ⟨r, ?_, hr⟩
          rw [E_V_eq]
          show e_tv E_C (E_V 201) e_t201_25 [192, p, c, x3, x4, x5] M = _
          unfold e_t201_25
          simp [zq_a, zq_b, zq_c, zq_d, zq_e, zq_f, zq_g, zq_h, zq_i, zq_j, zq_k, zq_l, zq_m, zq_n, zq_o, zq_p, zq_q, zq_r, zq_s, zq_t, zq_u, zq_v, zq_w, zq_x, zq_y, zq_z, zq_A, zq_B, zq_C, zq_D, zq_E, zq_F, zq_G, zq_H, zq_I, zq_J, zq_K, zq_L, ↓zq_M, ↓zq_N, ↓zq_O, ↓zq_P, ↓zq_Q, ↓zq_R, zq_S, zq_T, zq_U, zq_V, zq_W, zq_X, zq_Y, zq_Z, zq_0, zq_1, zq_2, zq_3, zq_4, zq_5, ↓zq_6, ↓zq_7, ↓zq_8, ↓zq_9, ↓zq_aa, zq_ab, zq_ac, zq_ad, zq_ae, zq_af, zq_ag, ↓zq_ah, ↓zq_ai, ↓zq_aj, zq_ak, ↓zq_al, ↓zq_am, e_b1, e_b2, x_o1, x_o2, r_O0, q, q_n, w1, w2, w4, l1, ku, kd, c1, c2, c2_n, k]
    · exact hend x3 x4 x5 q h4
theorem r_lowPush {b p c : Int} {M : EM} (hE : r_E M) (hb : b ≤ 40) (hp : r_cl (r_G M) b p ∨ r_rw (r_G M) b p) : r_P 201 [192, p, c] M := by
  have h40 := r_lo_p hb hp
  have kk : E_C 170 [192, p] M = some (r_G M (28 * p), M) := r_kind h40
  rcases hp with hp | hp
  · obtain ⟨a1, a2, a3, a4, a5, a6⟩ := hp
    obtain ⟨s, ks, hs⟩ := r_share hE h40 a6
    obtain ⟨v, kv, hv⟩ := r_cellPush (c := c) (sh := s) (M := M) h40 ⟨a4, a5⟩
    refine ⟨v, ?_, hv⟩
    rw [r_ent (show e_rok 201 [192, p, c] = true from decide_eq_true r_ref)]
    show e_tv E_C (E_V 201) e_t201_0 [192, p, c, 0, 0, 0] M = _
    unfold e_t201_0
    simp [zq_a, zq_b, zq_c, zq_d, zq_e, zq_f, zq_g, zq_h, zq_i, zq_j, zq_k, zq_l, zq_m, zq_n, zq_o, zq_p, zq_q, zq_r, zq_s, zq_t, zq_u, zq_v, zq_w, zq_x, zq_y, zq_z, zq_A, zq_B, zq_C, zq_D, zq_E, zq_F, zq_G, zq_H, zq_I, zq_J, zq_K, zq_L, ↓zq_M, ↓zq_N, ↓zq_O, ↓zq_P, ↓zq_Q, ↓zq_R, zq_S, zq_T, zq_U, zq_V, zq_W, zq_X, zq_Y, zq_Z, zq_0, zq_1, zq_2, zq_3, zq_4, zq_5, ↓zq_6, ↓zq_7, ↓zq_8, ↓zq_9, ↓zq_aa, zq_ab, zq_ac, zq_ad, zq_ae, zq_af, zq_ag, ↓zq_ah, ↓zq_ai, ↓zq_aj, zq_ak, ↓zq_al, ↓zq_am, e_b1, e_b2, x_o1, x_o2, kk, a3, ks, kv]
  · obtain ⟨a1, a2, a3, a4, a5, a6, a7, a8⟩ := hp
    obtain ⟨r, k, hr⟩ := r_low_loop (c := c) hE h40 a5 a7 a8 8 0 0 0 (by decide) (by decide) (by decide)
    refine ⟨r, ?_, hr⟩
    rw [r_ent (show e_rok 201 [192, p, c] = true from decide_eq_true r_ref)]
    show e_tv E_C (E_V 201) e_t201_0 [192, p, c, 0, 0, 0] M = _
    unfold e_t201_0
    simp [zq_a, zq_b, zq_c, zq_d, zq_e, zq_f, zq_g, zq_h, zq_i, zq_j, zq_k, zq_l, zq_m, zq_n, zq_o, zq_p, zq_q, zq_r, zq_s, zq_t, zq_u, zq_v, zq_w, zq_x, zq_y, zq_z, zq_A, zq_B, zq_C, zq_D, zq_E, zq_F, zq_G, zq_H, zq_I, zq_J, zq_K, zq_L, ↓zq_M, ↓zq_N, ↓zq_O, ↓zq_P, ↓zq_Q, ↓zq_R, zq_S, zq_T, zq_U, zq_V, zq_W, zq_X, zq_Y, zq_Z, zq_0, zq_1, zq_2, zq_3, zq_4, zq_5, ↓zq_6, ↓zq_7, ↓zq_8, ↓zq_9, ↓zq_aa, zq_ab, zq_ac, zq_ad, zq_ae, zq_af, zq_ag, ↓zq_ah, ↓zq_ai, ↓zq_aj, zq_ak, ↓zq_al, ↓zq_am, e_b1, e_b2, x_o1, x_o2, kk, a3, k]
end
section
/-! CURRENT at a PUSH, by the reference: the method is there once for each PART in a PART -/
theorem r_cur_down_202 {b p u : Int} {M : EM} (hE : r_E M) (hb : b ≤ 40) (hp : r_cl (r_G M) b p ∨ r_rw (r_G M) b p) : ∀ (m : Nat) (x3 x4 : Int), x3.toNat ≤ m → 0 ≤ x3 → x3 ≤ 99 → ∃ r, E_V 202 71 [192, p, u, x3, x4] M = some (r, M) ∧ -2147483648 ≤ r ∧ r ≤ 2147483647 := by
  intro m
  induction m with
  | zero =>
    intro x3 x4 h5 h0 h1
    have q : x3 = 0 := by omega
    refine ⟨0, ?_, by decide, by decide⟩
    subst q
    rw [E_V_eq]
    show e_tv E_C (E_V 202) e_t202_71 [192, p, u, 0, x4] M = _
    unfold e_t202_71
    simp [zq_a, zq_b, zq_c, zq_d, zq_e, zq_f, zq_g, zq_h, zq_i, zq_j, zq_k, zq_l, zq_m, zq_n, zq_o, zq_p, zq_q, zq_r, zq_s, zq_t, zq_u, zq_v, zq_w, zq_x, zq_y, zq_z, zq_A, zq_B, zq_C, zq_D, zq_E, zq_F, zq_G, zq_H, zq_I, zq_J, zq_K, zq_L, ↓zq_M, ↓zq_N, ↓zq_O, ↓zq_P, ↓zq_Q, ↓zq_R, zq_S, zq_T, zq_U, zq_V, zq_W, zq_X, zq_Y, zq_Z, zq_0, zq_1, zq_2, zq_3, zq_4, zq_5, ↓zq_6, ↓zq_7, ↓zq_8, ↓zq_9, ↓zq_aa, zq_ab, zq_ac, zq_ad, zq_ae, zq_af, zq_ag, ↓zq_ah, ↓zq_ai, ↓zq_aj, zq_ak, ↓zq_al, ↓zq_am, e_b1, e_b2, x_o1, x_o2]
  | succ m ih =>
    intro x3 x4 h5 h0 h1
    obtain ⟨l, kl, hl⟩ := r_lowPush (c := x3) hE hb hp
    rcases x_lt 0 x3 with ⟨q, q_n⟩ | ⟨q, q_n⟩
    · rcases x_lt l u with ⟨c1, c1_n⟩ | ⟨c1, c1_n⟩
      · have w4 : e_w (x3 + -1) = x3 - 1 := a_w_id (by omega) (by omega)
        obtain ⟨r, k, hr⟩ := ih (x3 - 1) x4 (by omega) (by omega) (by omega)
        refine ⟨r, ?_, hr⟩
        rw [E_V_eq]
        show e_tv E_C (E_V 202) e_t202_71 [192, p, u, x3, x4] M = _
        unfold e_t202_71
        simp [zq_a, zq_b, zq_c, zq_d, zq_e, zq_f, zq_g, zq_h, zq_i, zq_j, zq_k, zq_l, zq_m, zq_n, zq_o, zq_p, zq_q, zq_r, zq_s, zq_t, zq_u, zq_v, zq_w, zq_x, zq_y, zq_z, zq_A, zq_B, zq_C, zq_D, zq_E, zq_F, zq_G, zq_H, zq_I, zq_J, zq_K, zq_L, ↓zq_M, ↓zq_N, ↓zq_O, ↓zq_P, ↓zq_Q, ↓zq_R, zq_S, zq_T, zq_U, zq_V, zq_W, zq_X, zq_Y, zq_Z, zq_0, zq_1, zq_2, zq_3, zq_4, zq_5, ↓zq_6, ↓zq_7, ↓zq_8, ↓zq_9, ↓zq_aa, zq_ab, zq_ac, zq_ad, zq_ae, zq_af, zq_ag, ↓zq_ah, ↓zq_ai, ↓zq_aj, zq_ak, ↓zq_al, ↓zq_am, e_b1, e_b2, x_o1, x_o2, q, q_n, kl, c1, c1_n, w4, k]
      · refine ⟨x3, ?_, by omega, by omega⟩
        rw [E_V_eq]
        show e_tv E_C (E_V 202) e_t202_71 [192, p, u, x3, x4] M = _
        unfold e_t202_71
        simp [zq_a, zq_b, zq_c, zq_d, zq_e, zq_f, zq_g, zq_h, zq_i, zq_j, zq_k, zq_l, zq_m, zq_n, zq_o, zq_p, zq_q, zq_r, zq_s, zq_t, zq_u, zq_v, zq_w, zq_x, zq_y, zq_z, zq_A, zq_B, zq_C, zq_D, zq_E, zq_F, zq_G, zq_H, zq_I, zq_J, zq_K, zq_L, ↓zq_M, ↓zq_N, ↓zq_O, ↓zq_P, ↓zq_Q, ↓zq_R, zq_S, zq_T, zq_U, zq_V, zq_W, zq_X, zq_Y, zq_Z, zq_0, zq_1, zq_2, zq_3, zq_4, zq_5, ↓zq_6, ↓zq_7, ↓zq_8, ↓zq_9, ↓zq_aa, zq_ab, zq_ac, zq_ad, zq_ae, zq_af, zq_ag, ↓zq_ah, ↓zq_ai, ↓zq_aj, zq_ak, ↓zq_al, ↓zq_am, e_b1, e_b2, x_o1, x_o2, q, q_n, kl, c1, c1_n]
    · refine ⟨x3, ?_, by omega, by omega⟩
      rw [E_V_eq]
      show e_tv E_C (E_V 202) e_t202_71 [192, p, u, x3, x4] M = _
      unfold e_t202_71
      simp [zq_a, zq_b, zq_c, zq_d, zq_e, zq_f, zq_g, zq_h, zq_i, zq_j, zq_k, zq_l, zq_m, zq_n, zq_o, zq_p, zq_q, zq_r, zq_s, zq_t, zq_u, zq_v, zq_w, zq_x, zq_y, zq_z, zq_A, zq_B, zq_C, zq_D, zq_E, zq_F, zq_G, zq_H, zq_I, zq_J, zq_K, zq_L, ↓zq_M, ↓zq_N, ↓zq_O, ↓zq_P, ↓zq_Q, ↓zq_R, zq_S, zq_T, zq_U, zq_V, zq_W, zq_X, zq_Y, zq_Z, zq_0, zq_1, zq_2, zq_3, zq_4, zq_5, ↓zq_6, ↓zq_7, ↓zq_8, ↓zq_9, ↓zq_aa, zq_ab, zq_ac, zq_ad, zq_ae, zq_af, zq_ag, ↓zq_ah, ↓zq_ai, ↓zq_aj, zq_ak, ↓zq_al, ↓zq_am, e_b1, e_b2, x_o1, x_o2, q, q_n]
theorem r_cur_lo_202 {b p u : Int} {M : EM} (hE : r_E M) (hb : b ≤ 40) (hp : r_cl (r_G M) b p ∨ r_rw (r_G M) b p) : r_P 202 [192, p, u] M := by
  have h40 := r_lo_p hb hp
  have kk : E_C 170 [192, p] M = some (r_G M (28 * p), M) := r_kind h40
  obtain ⟨r, k, hr⟩ := r_cur_down_202 (u := u) hE hb hp 99 99 0 (by decide) (by decide) (by decide)
  refine ⟨r, ?_, hr⟩
  rcases hp with hp | hp
  · have a3 := hp.2.2.1
    rw [r_ent (show e_rok 202 [192, p, u] = true from decide_eq_true r_ref)]
    show e_tv E_C (E_V 202) e_t202_0 [192, p, u, 0, 0] M = _
    unfold e_t202_0
    simp [zq_a, zq_b, zq_c, zq_d, zq_e, zq_f, zq_g, zq_h, zq_i, zq_j, zq_k, zq_l, zq_m, zq_n, zq_o, zq_p, zq_q, zq_r, zq_s, zq_t, zq_u, zq_v, zq_w, zq_x, zq_y, zq_z, zq_A, zq_B, zq_C, zq_D, zq_E, zq_F, zq_G, zq_H, zq_I, zq_J, zq_K, zq_L, ↓zq_M, ↓zq_N, ↓zq_O, ↓zq_P, ↓zq_Q, ↓zq_R, zq_S, zq_T, zq_U, zq_V, zq_W, zq_X, zq_Y, zq_Z, zq_0, zq_1, zq_2, zq_3, zq_4, zq_5, ↓zq_6, ↓zq_7, ↓zq_8, ↓zq_9, ↓zq_aa, zq_ab, zq_ac, zq_ad, zq_ae, zq_af, zq_ag, ↓zq_ah, ↓zq_ai, ↓zq_aj, zq_ak, ↓zq_al, ↓zq_am, e_b1, e_b2, x_o1, x_o2, kk, a3, k]
  · have a3 := hp.2.2.1
    rw [r_ent (show e_rok 202 [192, p, u] = true from decide_eq_true r_ref)]
    show e_tv E_C (E_V 202) e_t202_0 [192, p, u, 0, 0] M = _
    unfold e_t202_0
    simp [zq_a, zq_b, zq_c, zq_d, zq_e, zq_f, zq_g, zq_h, zq_i, zq_j, zq_k, zq_l, zq_m, zq_n, zq_o, zq_p, zq_q, zq_r, zq_s, zq_t, zq_u, zq_v, zq_w, zq_x, zq_y, zq_z, zq_A, zq_B, zq_C, zq_D, zq_E, zq_F, zq_G, zq_H, zq_I, zq_J, zq_K, zq_L, ↓zq_M, ↓zq_N, ↓zq_O, ↓zq_P, ↓zq_Q, ↓zq_R, zq_S, zq_T, zq_U, zq_V, zq_W, zq_X, zq_Y, zq_Z, zq_0, zq_1, zq_2, zq_3, zq_4, zq_5, ↓zq_6, ↓zq_7, ↓zq_8, ↓zq_9, ↓zq_aa, zq_ab, zq_ac, zq_ad, zq_ae, zq_af, zq_ag, ↓zq_ah, ↓zq_ai, ↓zq_aj, zq_ak, ↓zq_al, ↓zq_am, e_b1, e_b2, x_o1, x_o2, kk, a3, k]
theorem r_cur_down_306 {b p u : Int} {M : EM} (hE : r_E M) (hb : b ≤ 40) (hp : r_cl (r_G M) b p ∨ r_rw (r_G M) b p) : ∀ (m : Nat) (x3 x4 : Int), x3.toNat ≤ m → 0 ≤ x3 → x3 ≤ 99 → ∃ r, E_V 306 71 [192, p, u, x3, x4] M = some (r, M) ∧ -2147483648 ≤ r ∧ r ≤ 2147483647 := by
  intro m
  induction m with
  | zero =>
    intro x3 x4 h5 h0 h1
    have q : x3 = 0 := by omega
    refine ⟨0, ?_, by decide, by decide⟩
    subst q
    rw [E_V_eq]
    show e_tv E_C (E_V 306) e_t306_71 [192, p, u, 0, x4] M = _
    unfold e_t306_71
    simp [zq_a, zq_b, zq_c, zq_d, zq_e, zq_f, zq_g, zq_h, zq_i, zq_j, zq_k, zq_l, zq_m, zq_n, zq_o, zq_p, zq_q, zq_r, zq_s, zq_t, zq_u, zq_v, zq_w, zq_x, zq_y, zq_z, zq_A, zq_B, zq_C, zq_D, zq_E, zq_F, zq_G, zq_H, zq_I, zq_J, zq_K, zq_L, ↓zq_M, ↓zq_N, ↓zq_O, ↓zq_P, ↓zq_Q, ↓zq_R, zq_S, zq_T, zq_U, zq_V, zq_W, zq_X, zq_Y, zq_Z, zq_0, zq_1, zq_2, zq_3, zq_4, zq_5, ↓zq_6, ↓zq_7, ↓zq_8, ↓zq_9, ↓zq_aa, zq_ab, zq_ac, zq_ad, zq_ae, zq_af, zq_ag, ↓zq_ah, ↓zq_ai, ↓zq_aj, zq_ak, ↓zq_al, ↓zq_am, e_b1, e_b2, x_o1, x_o2]
  | succ m ih =>
    intro x3 x4 h5 h0 h1
    obtain ⟨l, kl, hl⟩ := r_lowPush (c := x3) hE hb hp
    rcases x_lt 0 x3 with ⟨q, q_n⟩ | ⟨q, q_n⟩
    · rcases x_lt l u with ⟨c1, c1_n⟩ | ⟨c1, c1_n⟩
      · have w4 : e_w (x3 + -1) = x3 - 1 := a_w_id (by omega) (by omega)
        obtain ⟨r, k, hr⟩ := ih (x3 - 1) x4 (by omega) (by omega) (by omega)
        refine ⟨r, ?_, hr⟩
        rw [E_V_eq]
        show e_tv E_C (E_V 306) e_t306_71 [192, p, u, x3, x4] M = _
        unfold e_t306_71
        simp [zq_a, zq_b, zq_c, zq_d, zq_e, zq_f, zq_g, zq_h, zq_i, zq_j, zq_k, zq_l, zq_m, zq_n, zq_o, zq_p, zq_q, zq_r, zq_s, zq_t, zq_u, zq_v, zq_w, zq_x, zq_y, zq_z, zq_A, zq_B, zq_C, zq_D, zq_E, zq_F, zq_G, zq_H, zq_I, zq_J, zq_K, zq_L, ↓zq_M, ↓zq_N, ↓zq_O, ↓zq_P, ↓zq_Q, ↓zq_R, zq_S, zq_T, zq_U, zq_V, zq_W, zq_X, zq_Y, zq_Z, zq_0, zq_1, zq_2, zq_3, zq_4, zq_5, ↓zq_6, ↓zq_7, ↓zq_8, ↓zq_9, ↓zq_aa, zq_ab, zq_ac, zq_ad, zq_ae, zq_af, zq_ag, ↓zq_ah, ↓zq_ai, ↓zq_aj, zq_ak, ↓zq_al, ↓zq_am, e_b1, e_b2, x_o1, x_o2, q, q_n, kl, c1, c1_n, w4, k]
      · refine ⟨x3, ?_, by omega, by omega⟩
        rw [E_V_eq]
        show e_tv E_C (E_V 306) e_t306_71 [192, p, u, x3, x4] M = _
        unfold e_t306_71
        simp [zq_a, zq_b, zq_c, zq_d, zq_e, zq_f, zq_g, zq_h, zq_i, zq_j, zq_k, zq_l, zq_m, zq_n, zq_o, zq_p, zq_q, zq_r, zq_s, zq_t, zq_u, zq_v, zq_w, zq_x, zq_y, zq_z, zq_A, zq_B, zq_C, zq_D, zq_E, zq_F, zq_G, zq_H, zq_I, zq_J, zq_K, zq_L, ↓zq_M, ↓zq_N, ↓zq_O, ↓zq_P, ↓zq_Q, ↓zq_R, zq_S, zq_T, zq_U, zq_V, zq_W, zq_X, zq_Y, zq_Z, zq_0, zq_1, zq_2, zq_3, zq_4, zq_5, ↓zq_6, ↓zq_7, ↓zq_8, ↓zq_9, ↓zq_aa, zq_ab, zq_ac, zq_ad, zq_ae, zq_af, zq_ag, ↓zq_ah, ↓zq_ai, ↓zq_aj, zq_ak, ↓zq_al, ↓zq_am, e_b1, e_b2, x_o1, x_o2, q, q_n, kl, c1, c1_n]
    · refine ⟨x3, ?_, by omega, by omega⟩
      rw [E_V_eq]
      show e_tv E_C (E_V 306) e_t306_71 [192, p, u, x3, x4] M = _
      unfold e_t306_71
      simp [zq_a, zq_b, zq_c, zq_d, zq_e, zq_f, zq_g, zq_h, zq_i, zq_j, zq_k, zq_l, zq_m, zq_n, zq_o, zq_p, zq_q, zq_r, zq_s, zq_t, zq_u, zq_v, zq_w, zq_x, zq_y, zq_z, zq_A, zq_B, zq_C, zq_D, zq_E, zq_F, zq_G, zq_H, zq_I, zq_J, zq_K, zq_L, ↓zq_M, ↓zq_N, ↓zq_O, ↓zq_P, ↓zq_Q, ↓zq_R, zq_S, zq_T, zq_U, zq_V, zq_W, zq_X, zq_Y, zq_Z, zq_0, zq_1, zq_2, zq_3, zq_4, zq_5, ↓zq_6, ↓zq_7, ↓zq_8, ↓zq_9, ↓zq_aa, zq_ab, zq_ac, zq_ad, zq_ae, zq_af, zq_ag, ↓zq_ah, ↓zq_ai, ↓zq_aj, zq_ak, ↓zq_al, ↓zq_am, e_b1, e_b2, x_o1, x_o2, q, q_n]
theorem r_cur_lo_306 {b p u : Int} {M : EM} (hE : r_E M) (hb : b ≤ 40) (hp : r_cl (r_G M) b p ∨ r_rw (r_G M) b p) : r_P 306 [192, p, u] M := by
  have h40 := r_lo_p hb hp
  have kk : E_C 170 [192, p] M = some (r_G M (28 * p), M) := r_kind h40
  obtain ⟨r, k, hr⟩ := r_cur_down_306 (u := u) hE hb hp 99 99 0 (by decide) (by decide) (by decide)
  refine ⟨r, ?_, hr⟩
  rcases hp with hp | hp
  · have a3 := hp.2.2.1
    rw [r_ent (show e_rok 306 [192, p, u] = true from decide_eq_true r_ref)]
    show e_tv E_C (E_V 306) e_t306_0 [192, p, u, 0, 0] M = _
    unfold e_t306_0
    simp [zq_a, zq_b, zq_c, zq_d, zq_e, zq_f, zq_g, zq_h, zq_i, zq_j, zq_k, zq_l, zq_m, zq_n, zq_o, zq_p, zq_q, zq_r, zq_s, zq_t, zq_u, zq_v, zq_w, zq_x, zq_y, zq_z, zq_A, zq_B, zq_C, zq_D, zq_E, zq_F, zq_G, zq_H, zq_I, zq_J, zq_K, zq_L, ↓zq_M, ↓zq_N, ↓zq_O, ↓zq_P, ↓zq_Q, ↓zq_R, zq_S, zq_T, zq_U, zq_V, zq_W, zq_X, zq_Y, zq_Z, zq_0, zq_1, zq_2, zq_3, zq_4, zq_5, ↓zq_6, ↓zq_7, ↓zq_8, ↓zq_9, ↓zq_aa, zq_ab, zq_ac, zq_ad, zq_ae, zq_af, zq_ag, ↓zq_ah, ↓zq_ai, ↓zq_aj, zq_ak, ↓zq_al, ↓zq_am, e_b1, e_b2, x_o1, x_o2, kk, a3, k]
  · have a3 := hp.2.2.1
    rw [r_ent (show e_rok 306 [192, p, u] = true from decide_eq_true r_ref)]
    show e_tv E_C (E_V 306) e_t306_0 [192, p, u, 0, 0] M = _
    unfold e_t306_0
    simp [zq_a, zq_b, zq_c, zq_d, zq_e, zq_f, zq_g, zq_h, zq_i, zq_j, zq_k, zq_l, zq_m, zq_n, zq_o, zq_p, zq_q, zq_r, zq_s, zq_t, zq_u, zq_v, zq_w, zq_x, zq_y, zq_z, zq_A, zq_B, zq_C, zq_D, zq_E, zq_F, zq_G, zq_H, zq_I, zq_J, zq_K, zq_L, ↓zq_M, ↓zq_N, ↓zq_O, ↓zq_P, ↓zq_Q, ↓zq_R, zq_S, zq_T, zq_U, zq_V, zq_W, zq_X, zq_Y, zq_Z, zq_0, zq_1, zq_2, zq_3, zq_4, zq_5, ↓zq_6, ↓zq_7, ↓zq_8, ↓zq_9, ↓zq_aa, zq_ab, zq_ac, zq_ad, zq_ae, zq_af, zq_ag, ↓zq_ah, ↓zq_ai, ↓zq_aj, zq_ak, ↓zq_al, ↓zq_am, e_b1, e_b2, x_o1, x_o2, kk, a3, k]
theorem r_cur_down_307 {b p u : Int} {M : EM} (hE : r_E M) (hb : b ≤ 40) (hp : r_cl (r_G M) b p ∨ r_rw (r_G M) b p) : ∀ (m : Nat) (x3 x4 : Int), x3.toNat ≤ m → 0 ≤ x3 → x3 ≤ 99 → ∃ r, E_V 307 71 [192, p, u, x3, x4] M = some (r, M) ∧ -2147483648 ≤ r ∧ r ≤ 2147483647 := by
  intro m
  induction m with
  | zero =>
    intro x3 x4 h5 h0 h1
    have q : x3 = 0 := by omega
    refine ⟨0, ?_, by decide, by decide⟩
    subst q
    rw [E_V_eq]
    show e_tv E_C (E_V 307) e_t307_71 [192, p, u, 0, x4] M = _
    unfold e_t307_71
    simp [zq_a, zq_b, zq_c, zq_d, zq_e, zq_f, zq_g, zq_h, zq_i, zq_j, zq_k, zq_l, zq_m, zq_n, zq_o, zq_p, zq_q, zq_r, zq_s, zq_t, zq_u, zq_v, zq_w, zq_x, zq_y, zq_z, zq_A, zq_B, zq_C, zq_D, zq_E, zq_F, zq_G, zq_H, zq_I, zq_J, zq_K, zq_L, ↓zq_M, ↓zq_N, ↓zq_O, ↓zq_P, ↓zq_Q, ↓zq_R, zq_S, zq_T, zq_U, zq_V, zq_W, zq_X, zq_Y, zq_Z, zq_0, zq_1, zq_2, zq_3, zq_4, zq_5, ↓zq_6, ↓zq_7, ↓zq_8, ↓zq_9, ↓zq_aa, zq_ab, zq_ac, zq_ad, zq_ae, zq_af, zq_ag, ↓zq_ah, ↓zq_ai, ↓zq_aj, zq_ak, ↓zq_al, ↓zq_am, e_b1, e_b2, x_o1, x_o2]
  | succ m ih =>
    intro x3 x4 h5 h0 h1
    obtain ⟨l, kl, hl⟩ := r_lowPush (c := x3) hE hb hp
    rcases x_lt 0 x3 with ⟨q, q_n⟩ | ⟨q, q_n⟩
    · rcases x_lt l u with ⟨c1, c1_n⟩ | ⟨c1, c1_n⟩
      · have w4 : e_w (x3 + -1) = x3 - 1 := a_w_id (by omega) (by omega)
        obtain ⟨r, k, hr⟩ := ih (x3 - 1) x4 (by omega) (by omega) (by omega)
        refine ⟨r, ?_, hr⟩
        rw [E_V_eq]
        show e_tv E_C (E_V 307) e_t307_71 [192, p, u, x3, x4] M = _
        unfold e_t307_71
        simp [zq_a, zq_b, zq_c, zq_d, zq_e, zq_f, zq_g, zq_h, zq_i, zq_j, zq_k, zq_l, zq_m, zq_n, zq_o, zq_p, zq_q, zq_r, zq_s, zq_t, zq_u, zq_v, zq_w, zq_x, zq_y, zq_z, zq_A, zq_B, zq_C, zq_D, zq_E, zq_F, zq_G, zq_H, zq_I, zq_J, zq_K, zq_L, ↓zq_M, ↓zq_N, ↓zq_O, ↓zq_P, ↓zq_Q, ↓zq_R, zq_S, zq_T, zq_U, zq_V, zq_W, zq_X, zq_Y, zq_Z, zq_0, zq_1, zq_2, zq_3, zq_4, zq_5, ↓zq_6, ↓zq_7, ↓zq_8, ↓zq_9, ↓zq_aa, zq_ab, zq_ac, zq_ad, zq_ae, zq_af, zq_ag, ↓zq_ah, ↓zq_ai, ↓zq_aj, zq_ak, ↓zq_al, ↓zq_am, e_b1, e_b2, x_o1, x_o2, q, q_n, kl, c1, c1_n, w4, k]
      · refine ⟨x3, ?_, by omega, by omega⟩
        rw [E_V_eq]
        show e_tv E_C (E_V 307) e_t307_71 [192, p, u, x3, x4] M = _
        unfold e_t307_71
        simp [zq_a, zq_b, zq_c, zq_d, zq_e, zq_f, zq_g, zq_h, zq_i, zq_j, zq_k, zq_l, zq_m, zq_n, zq_o, zq_p, zq_q, zq_r, zq_s, zq_t, zq_u, zq_v, zq_w, zq_x, zq_y, zq_z, zq_A, zq_B, zq_C, zq_D, zq_E, zq_F, zq_G, zq_H, zq_I, zq_J, zq_K, zq_L, ↓zq_M, ↓zq_N, ↓zq_O, ↓zq_P, ↓zq_Q, ↓zq_R, zq_S, zq_T, zq_U, zq_V, zq_W, zq_X, zq_Y, zq_Z, zq_0, zq_1, zq_2, zq_3, zq_4, zq_5, ↓zq_6, ↓zq_7, ↓zq_8, ↓zq_9, ↓zq_aa, zq_ab, zq_ac, zq_ad, zq_ae, zq_af, zq_ag, ↓zq_ah, ↓zq_ai, ↓zq_aj, zq_ak, ↓zq_al, ↓zq_am, e_b1, e_b2, x_o1, x_o2, q, q_n, kl, c1, c1_n]
    · refine ⟨x3, ?_, by omega, by omega⟩
      rw [E_V_eq]
      show e_tv E_C (E_V 307) e_t307_71 [192, p, u, x3, x4] M = _
      unfold e_t307_71
      simp [zq_a, zq_b, zq_c, zq_d, zq_e, zq_f, zq_g, zq_h, zq_i, zq_j, zq_k, zq_l, zq_m, zq_n, zq_o, zq_p, zq_q, zq_r, zq_s, zq_t, zq_u, zq_v, zq_w, zq_x, zq_y, zq_z, zq_A, zq_B, zq_C, zq_D, zq_E, zq_F, zq_G, zq_H, zq_I, zq_J, zq_K, zq_L, ↓zq_M, ↓zq_N, ↓zq_O, ↓zq_P, ↓zq_Q, ↓zq_R, zq_S, zq_T, zq_U, zq_V, zq_W, zq_X, zq_Y, zq_Z, zq_0, zq_1, zq_2, zq_3, zq_4, zq_5, ↓zq_6, ↓zq_7, ↓zq_8, ↓zq_9, ↓zq_aa, zq_ab, zq_ac, zq_ad, zq_ae, zq_af, zq_ag, ↓zq_ah, ↓zq_ai, ↓zq_aj, zq_ak, ↓zq_al, ↓zq_am, e_b1, e_b2, x_o1, x_o2, q, q_n]
theorem r_cur_lo_307 {b p u : Int} {M : EM} (hE : r_E M) (hb : b ≤ 40) (hp : r_cl (r_G M) b p ∨ r_rw (r_G M) b p) : r_P 307 [192, p, u] M := by
  have h40 := r_lo_p hb hp
  have kk : E_C 170 [192, p] M = some (r_G M (28 * p), M) := r_kind h40
  obtain ⟨r, k, hr⟩ := r_cur_down_307 (u := u) hE hb hp 99 99 0 (by decide) (by decide) (by decide)
  refine ⟨r, ?_, hr⟩
  rcases hp with hp | hp
  · have a3 := hp.2.2.1
    rw [r_ent (show e_rok 307 [192, p, u] = true from decide_eq_true r_ref)]
    show e_tv E_C (E_V 307) e_t307_0 [192, p, u, 0, 0] M = _
    unfold e_t307_0
    simp [zq_a, zq_b, zq_c, zq_d, zq_e, zq_f, zq_g, zq_h, zq_i, zq_j, zq_k, zq_l, zq_m, zq_n, zq_o, zq_p, zq_q, zq_r, zq_s, zq_t, zq_u, zq_v, zq_w, zq_x, zq_y, zq_z, zq_A, zq_B, zq_C, zq_D, zq_E, zq_F, zq_G, zq_H, zq_I, zq_J, zq_K, zq_L, ↓zq_M, ↓zq_N, ↓zq_O, ↓zq_P, ↓zq_Q, ↓zq_R, zq_S, zq_T, zq_U, zq_V, zq_W, zq_X, zq_Y, zq_Z, zq_0, zq_1, zq_2, zq_3, zq_4, zq_5, ↓zq_6, ↓zq_7, ↓zq_8, ↓zq_9, ↓zq_aa, zq_ab, zq_ac, zq_ad, zq_ae, zq_af, zq_ag, ↓zq_ah, ↓zq_ai, ↓zq_aj, zq_ak, ↓zq_al, ↓zq_am, e_b1, e_b2, x_o1, x_o2, kk, a3, k]
  · have a3 := hp.2.2.1
    rw [r_ent (show e_rok 307 [192, p, u] = true from decide_eq_true r_ref)]
    show e_tv E_C (E_V 307) e_t307_0 [192, p, u, 0, 0] M = _
    unfold e_t307_0
    simp [zq_a, zq_b, zq_c, zq_d, zq_e, zq_f, zq_g, zq_h, zq_i, zq_j, zq_k, zq_l, zq_m, zq_n, zq_o, zq_p, zq_q, zq_r, zq_s, zq_t, zq_u, zq_v, zq_w, zq_x, zq_y, zq_z, zq_A, zq_B, zq_C, zq_D, zq_E, zq_F, zq_G, zq_H, zq_I, zq_J, zq_K, zq_L, ↓zq_M, ↓zq_N, ↓zq_O, ↓zq_P, ↓zq_Q, ↓zq_R, zq_S, zq_T, zq_U, zq_V, zq_W, zq_X, zq_Y, zq_Z, zq_0, zq_1, zq_2, zq_3, zq_4, zq_5, ↓zq_6, ↓zq_7, ↓zq_8, ↓zq_9, ↓zq_aa, zq_ab, zq_ac, zq_ad, zq_ae, zq_af, zq_ag, ↓zq_ah, ↓zq_ai, ↓zq_aj, zq_ak, ↓zq_al, ↓zq_am, e_b1, e_b2, x_o1, x_o2, kk, a3, k]
theorem r_cur_sum_306 {p u : Int} {M : EM} (hE : r_E M) (hp : 0 ≤ p ∧ p < 40) (hn : r_G M (28 * p + 2) ≤ 6) (hm : ∀ k, 0 ≤ k → k < r_G M (28 * p + 2) → r_cl (r_G M) p (r_G M (28 * p + 3 + k)) ∨ r_rw (r_G M) p (r_G M (28 * p + 3 + k))) : ∀ (m : Nat) (x3 x4 : Int), (6 - x4).toNat ≤ m → 0 ≤ x4 → (-2147483648 ≤ x3 ∧ x3 ≤ 2147483647) → ∃ r, E_V 306 35 [192, p, u, x3, x4] M = some (r, M) ∧ -2147483648 ≤ r ∧ r ≤ 2147483647 := by
  have km : E_C 171 [192, p] M = some (r_G M (28 * p + 2), M) := r_many hp
  have hend : ∀ x3 x4, ¬ (x4 < r_G M (28 * p + 2)) → (-2147483648 ≤ x3 ∧ x3 ≤ 2147483647) → ∃ r, E_V 306 35 [192, p, u, x3, x4] M = some (r, M) ∧ -2147483648 ≤ r ∧ r ≤ 2147483647 := by
    intro x3 x4 q h4
    refine ⟨x3, ?_, h4⟩
    rw [E_V_eq]
    show e_tv E_C (E_V 306) e_t306_35 [192, p, u, x3, x4] M = _
    unfold e_t306_35
    simp [zq_a, zq_b, zq_c, zq_d, zq_e, zq_f, zq_g, zq_h, zq_i, zq_j, zq_k, zq_l, zq_m, zq_n, zq_o, zq_p, zq_q, zq_r, zq_s, zq_t, zq_u, zq_v, zq_w, zq_x, zq_y, zq_z, zq_A, zq_B, zq_C, zq_D, zq_E, zq_F, zq_G, zq_H, zq_I, zq_J, zq_K, zq_L, ↓zq_M, ↓zq_N, ↓zq_O, ↓zq_P, ↓zq_Q, ↓zq_R, zq_S, zq_T, zq_U, zq_V, zq_W, zq_X, zq_Y, zq_Z, zq_0, zq_1, zq_2, zq_3, zq_4, zq_5, ↓zq_6, ↓zq_7, ↓zq_8, ↓zq_9, ↓zq_aa, zq_ab, zq_ac, zq_ad, zq_ae, zq_af, zq_ag, ↓zq_ah, ↓zq_ai, ↓zq_aj, zq_ak, ↓zq_al, ↓zq_am, e_b1, e_b2, x_o1, x_o2, q, km]
  intro m
  induction m with
  | zero => intro x3 x4 h5 h0 h4; exact hend x3 x4 (by omega) h4
  | succ m ih =>
    intro x3 x4 h5 h0 h4
    rcases x_lt x4 (r_G M (28 * p + 2)) with ⟨q, q_n⟩ | ⟨q, q_n⟩
    · have w4 : e_w (x4 + 1) = x4 + 1 := a_w_id (by omega) (by omega)
      have ko : E_C 172 [192, p, x4] M = some (r_G M (28 * p + 3 + x4), M) := r_of hp ⟨h0, by omega⟩
      obtain ⟨t, kt, -⟩ := r_cur_lo_307 (u := u) hE (by omega) (hm x4 h0 q)
      obtain ⟨r, k, hr⟩ := ih (e_w (x3 + t)) (x4 + 1) (by omega) (by omega) (a_w _)
      refine ⟨r, ?_, hr⟩
      rw [E_V_eq]
      show e_tv E_C (E_V 306) e_t306_35 [192, p, u, x3, x4] M = _
      unfold e_t306_35
      simp [zq_a, zq_b, zq_c, zq_d, zq_e, zq_f, zq_g, zq_h, zq_i, zq_j, zq_k, zq_l, zq_m, zq_n, zq_o, zq_p, zq_q, zq_r, zq_s, zq_t, zq_u, zq_v, zq_w, zq_x, zq_y, zq_z, zq_A, zq_B, zq_C, zq_D, zq_E, zq_F, zq_G, zq_H, zq_I, zq_J, zq_K, zq_L, ↓zq_M, ↓zq_N, ↓zq_O, ↓zq_P, ↓zq_Q, ↓zq_R, zq_S, zq_T, zq_U, zq_V, zq_W, zq_X, zq_Y, zq_Z, zq_0, zq_1, zq_2, zq_3, zq_4, zq_5, ↓zq_6, ↓zq_7, ↓zq_8, ↓zq_9, ↓zq_aa, zq_ab, zq_ac, zq_ad, zq_ae, zq_af, zq_ag, ↓zq_ah, ↓zq_ai, ↓zq_aj, zq_ak, ↓zq_al, ↓zq_am, e_b1, e_b2, x_o1, x_o2, q, q_n, km, ko, kt, w4, k]
    · exact hend x3 x4 q h4
theorem r_cur_fd_306 {b p u : Int} {M : EM} (hE : r_E M) (hb : b ≤ 40) (hp : r_fd (r_G M) b p) : r_P 306 [192, p, u] M := by
  obtain ⟨a1, a2, a3, a4, a5, a6⟩ := hp
  have kk : E_C 170 [192, p] M = some (r_G M (28 * p), M) := r_kind ⟨a1, by omega⟩
  obtain ⟨r, k, hr⟩ := r_cur_sum_306 (u := u) hE ⟨a1, by omega⟩ a5 a6 6 0 0 (by decide) (by decide) (by decide)
  refine ⟨r, ?_, hr⟩
  rw [r_ent (show e_rok 306 [192, p, u] = true from decide_eq_true r_ref)]
  show e_tv E_C (E_V 306) e_t306_0 [192, p, u, 0, 0] M = _
  unfold e_t306_0
  simp [zq_a, zq_b, zq_c, zq_d, zq_e, zq_f, zq_g, zq_h, zq_i, zq_j, zq_k, zq_l, zq_m, zq_n, zq_o, zq_p, zq_q, zq_r, zq_s, zq_t, zq_u, zq_v, zq_w, zq_x, zq_y, zq_z, zq_A, zq_B, zq_C, zq_D, zq_E, zq_F, zq_G, zq_H, zq_I, zq_J, zq_K, zq_L, ↓zq_M, ↓zq_N, ↓zq_O, ↓zq_P, ↓zq_Q, ↓zq_R, zq_S, zq_T, zq_U, zq_V, zq_W, zq_X, zq_Y, zq_Z, zq_0, zq_1, zq_2, zq_3, zq_4, zq_5, ↓zq_6, ↓zq_7, ↓zq_8, ↓zq_9, ↓zq_aa, zq_ab, zq_ac, zq_ad, zq_ae, zq_af, zq_ag, ↓zq_ah, ↓zq_ai, ↓zq_aj, zq_ak, ↓zq_al, ↓zq_am, e_b1, e_b2, x_o1, x_o2, kk, a3, k]
theorem r_cur_sum_202 {p u : Int} {M : EM} (hE : r_E M) (hp : 0 ≤ p ∧ p < 40) (hn : r_G M (28 * p + 2) ≤ 6) (hm : ∀ k, 0 ≤ k → k < r_G M (28 * p + 2) → r_cl (r_G M) p (r_G M (28 * p + 3 + k)) ∨ r_rw (r_G M) p (r_G M (28 * p + 3 + k))) : ∀ (m : Nat) (x3 x4 : Int), (6 - x4).toNat ≤ m → 0 ≤ x4 → (-2147483648 ≤ x3 ∧ x3 ≤ 2147483647) → ∃ r, E_V 202 35 [192, p, u, x3, x4] M = some (r, M) ∧ -2147483648 ≤ r ∧ r ≤ 2147483647 := by
  have km : E_C 171 [192, p] M = some (r_G M (28 * p + 2), M) := r_many hp
  have hend : ∀ x3 x4, ¬ (x4 < r_G M (28 * p + 2)) → (-2147483648 ≤ x3 ∧ x3 ≤ 2147483647) → ∃ r, E_V 202 35 [192, p, u, x3, x4] M = some (r, M) ∧ -2147483648 ≤ r ∧ r ≤ 2147483647 := by
    intro x3 x4 q h4
    refine ⟨x3, ?_, h4⟩
    rw [E_V_eq]
    show e_tv E_C (E_V 202) e_t202_35 [192, p, u, x3, x4] M = _
    unfold e_t202_35
    simp [zq_a, zq_b, zq_c, zq_d, zq_e, zq_f, zq_g, zq_h, zq_i, zq_j, zq_k, zq_l, zq_m, zq_n, zq_o, zq_p, zq_q, zq_r, zq_s, zq_t, zq_u, zq_v, zq_w, zq_x, zq_y, zq_z, zq_A, zq_B, zq_C, zq_D, zq_E, zq_F, zq_G, zq_H, zq_I, zq_J, zq_K, zq_L, ↓zq_M, ↓zq_N, ↓zq_O, ↓zq_P, ↓zq_Q, ↓zq_R, zq_S, zq_T, zq_U, zq_V, zq_W, zq_X, zq_Y, zq_Z, zq_0, zq_1, zq_2, zq_3, zq_4, zq_5, ↓zq_6, ↓zq_7, ↓zq_8, ↓zq_9, ↓zq_aa, zq_ab, zq_ac, zq_ad, zq_ae, zq_af, zq_ag, ↓zq_ah, ↓zq_ai, ↓zq_aj, zq_ak, ↓zq_al, ↓zq_am, e_b1, e_b2, x_o1, x_o2, q, km]
  intro m
  induction m with
  | zero => intro x3 x4 h5 h0 h4; exact hend x3 x4 (by omega) h4
  | succ m ih =>
    intro x3 x4 h5 h0 h4
    rcases x_lt x4 (r_G M (28 * p + 2)) with ⟨q, q_n⟩ | ⟨q, q_n⟩
    · have w4 : e_w (x4 + 1) = x4 + 1 := a_w_id (by omega) (by omega)
      have ko : E_C 172 [192, p, x4] M = some (r_G M (28 * p + 3 + x4), M) := r_of hp ⟨h0, by omega⟩
      obtain ⟨t, kt, -⟩ := r_cur_lo_306 (u := u) hE (by omega) (hm x4 h0 q)
      obtain ⟨r, k, hr⟩ := ih (e_w (x3 + t)) (x4 + 1) (by omega) (by omega) (a_w _)
      refine ⟨r, ?_, hr⟩
      rw [E_V_eq]
      show e_tv E_C (E_V 202) e_t202_35 [192, p, u, x3, x4] M = _
      unfold e_t202_35
      simp [zq_a, zq_b, zq_c, zq_d, zq_e, zq_f, zq_g, zq_h, zq_i, zq_j, zq_k, zq_l, zq_m, zq_n, zq_o, zq_p, zq_q, zq_r, zq_s, zq_t, zq_u, zq_v, zq_w, zq_x, zq_y, zq_z, zq_A, zq_B, zq_C, zq_D, zq_E, zq_F, zq_G, zq_H, zq_I, zq_J, zq_K, zq_L, ↓zq_M, ↓zq_N, ↓zq_O, ↓zq_P, ↓zq_Q, ↓zq_R, zq_S, zq_T, zq_U, zq_V, zq_W, zq_X, zq_Y, zq_Z, zq_0, zq_1, zq_2, zq_3, zq_4, zq_5, ↓zq_6, ↓zq_7, ↓zq_8, ↓zq_9, ↓zq_aa, zq_ab, zq_ac, zq_ad, zq_ae, zq_af, zq_ag, ↓zq_ah, ↓zq_ai, ↓zq_aj, zq_ak, ↓zq_al, ↓zq_am, e_b1, e_b2, x_o1, x_o2, q, q_n, km, ko, kt, w4, k]
    · exact hend x3 x4 q h4
theorem r_cur_fd_202 {b p u : Int} {M : EM} (hE : r_E M) (hb : b ≤ 40) (hp : r_fd (r_G M) b p) : r_P 202 [192, p, u] M := by
  obtain ⟨a1, a2, a3, a4, a5, a6⟩ := hp
  have kk : E_C 170 [192, p] M = some (r_G M (28 * p), M) := r_kind ⟨a1, by omega⟩
  obtain ⟨r, k, hr⟩ := r_cur_sum_202 (u := u) hE ⟨a1, by omega⟩ a5 a6 6 0 0 (by decide) (by decide) (by decide)
  refine ⟨r, ?_, hr⟩
  rw [r_ent (show e_rok 202 [192, p, u] = true from decide_eq_true r_ref)]
  show e_tv E_C (E_V 202) e_t202_0 [192, p, u, 0, 0] M = _
  unfold e_t202_0
  simp [zq_a, zq_b, zq_c, zq_d, zq_e, zq_f, zq_g, zq_h, zq_i, zq_j, zq_k, zq_l, zq_m, zq_n, zq_o, zq_p, zq_q, zq_r, zq_s, zq_t, zq_u, zq_v, zq_w, zq_x, zq_y, zq_z, zq_A, zq_B, zq_C, zq_D, zq_E, zq_F, zq_G, zq_H, zq_I, zq_J, zq_K, zq_L, ↓zq_M, ↓zq_N, ↓zq_O, ↓zq_P, ↓zq_Q, ↓zq_R, zq_S, zq_T, zq_U, zq_V, zq_W, zq_X, zq_Y, zq_Z, zq_0, zq_1, zq_2, zq_3, zq_4, zq_5, ↓zq_6, ↓zq_7, ↓zq_8, ↓zq_9, ↓zq_aa, zq_ab, zq_ac, zq_ad, zq_ae, zq_af, zq_ag, ↓zq_ah, ↓zq_ai, ↓zq_aj, zq_ak, ↓zq_al, ↓zq_am, e_b1, e_b2, x_o1, x_o2, kk, a3, k]
theorem r_currentOf {b p u : Int} {M : EM} (hE : r_E M) (hb : b ≤ 40) (hp : r_pt (r_G M) b p) : r_P 202 [192, p, u] M := by
  rcases hp with hp | hp | hp | hp
  · exact r_cur_lo_202 hE hb (Or.inl hp)
  · exact r_cur_lo_202 hE hb (Or.inr hp)
  · exact r_cur_fd_202 hE hb hp
  · obtain ⟨a1, a2, a3, a4, a5⟩ := hp
    have kk : E_C 170 [192, p] M = some (r_G M (28 * p), M) := r_kind ⟨a1, by omega⟩
    have ko : E_C 172 [192, p, 0] M = some (r_G M (28 * p + 3), M) := by
      have h := r_of (M := M) (p := p) (k := 0) ⟨a1, by omega⟩ ⟨by decide, by decide⟩
      rw [Int.add_zero] at h
      exact h
    have h3 : r_P 306 [192, r_G M (28 * p + 3), u] M := by
      rcases a5 with h | h | h
      · exact r_cur_lo_306 hE (by omega) (Or.inl h)
      · exact r_cur_lo_306 hE (by omega) (Or.inr h)
      · exact r_cur_fd_306 hE (by omega) h
    obtain ⟨r, k, hr⟩ := h3
    refine ⟨r, ?_, hr⟩
    rw [r_ent (show e_rok 202 [192, p, u] = true from decide_eq_true r_ref)]
    show e_tv E_C (E_V 202) e_t202_0 [192, p, u, 0, 0] M = _
    unfold e_t202_0
    simp [zq_a, zq_b, zq_c, zq_d, zq_e, zq_f, zq_g, zq_h, zq_i, zq_j, zq_k, zq_l, zq_m, zq_n, zq_o, zq_p, zq_q, zq_r, zq_s, zq_t, zq_u, zq_v, zq_w, zq_x, zq_y, zq_z, zq_A, zq_B, zq_C, zq_D, zq_E, zq_F, zq_G, zq_H, zq_I, zq_J, zq_K, zq_L, ↓zq_M, ↓zq_N, ↓zq_O, ↓zq_P, ↓zq_Q, ↓zq_R, zq_S, zq_T, zq_U, zq_V, zq_W, zq_X, zq_Y, zq_Z, zq_0, zq_1, zq_2, zq_3, zq_4, zq_5, ↓zq_6, ↓zq_7, ↓zq_8, ↓zq_9, ↓zq_aa, zq_ab, zq_ac, zq_ad, zq_ae, zq_af, zq_ag, ↓zq_ah, ↓zq_ai, ↓zq_aj, zq_ak, ↓zq_al, ↓zq_am, e_b1, e_b2, x_o1, x_o2, kk, a3, ko, k]
end
