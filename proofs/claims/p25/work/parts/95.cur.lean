/-! CURRENT at a PUSH, by the reference: the method is there once for each PART in a PART -/
theorem r_cur_down_202 {b p u : Int} {M : EM} (hE : r_E M) (hb : b ≤ 40) (hp : r_cl (r_G M) b p ∨ r_rw (r_G M) b p) : ∀ (m : Nat) (x3 x4 : Int), x3.toNat ≤ m → 0 ≤ x3 → x3 ≤ 99 → ∃ r, E_V 202 71 [192, p, u, x3, x4] M = some (r, M) ∧ -2147483648 ≤ r ∧ r ≤ 2147483647 := by
  intro m
  induction m with
  | zero =>
    intro x3 x4 h5 h0 h1
    have q : x3 = 0 := by omega
    refine ⟨0, ?_, by decide, by decide⟩
    subst q
    rw [E_V_eq]
    show e_tv E_C (E_V 202) e_t202_71 [192, p, u, 0, x4] M = _
    unfold e_t202_71
    simp [zq_a, zq_b, zq_c, zq_d, zq_e, zq_f, zq_g, zq_h, zq_i, zq_j, zq_k, zq_l, zq_m, zq_n, zq_o, zq_p, zq_q, zq_r, zq_s, zq_t, zq_u, zq_v, zq_w, zq_x, zq_y, zq_z, zq_A, zq_B, zq_C, zq_D, zq_E, zq_F, zq_G, zq_H, zq_I, zq_J, zq_K, zq_L, ↓zq_M, ↓zq_N, ↓zq_O, ↓zq_P, ↓zq_Q, ↓zq_R, zq_S, zq_T, zq_U, zq_V, zq_W, zq_X, zq_Y, zq_Z, zq_0, zq_1, zq_2, zq_3, zq_4, zq_5, ↓zq_6, ↓zq_7, ↓zq_8, ↓zq_9, ↓zq_aa, zq_ab, zq_ac, zq_ad, zq_ae, zq_af, zq_ag, ↓zq_ah, ↓zq_ai, ↓zq_aj, zq_ak, ↓zq_al, ↓zq_am, e_b1, e_b2, x_o1, x_o2]
  | succ m ih =>
    intro x3 x4 h5 h0 h1
    obtain ⟨l, kl, hl⟩ := r_lowPush (c := x3) hE hb hp
    rcases x_lt 0 x3 with ⟨q, q_n⟩ | ⟨q, q_n⟩
    · rcases x_lt l u with ⟨c1, c1_n⟩ | ⟨c1, c1_n⟩
      · have w4 : e_w (x3 + -1) = x3 - 1 := a_w_id (by omega) (by omega)
        obtain ⟨r, k, hr⟩ := ih (x3 - 1) x4 (by omega) (by omega) (by omega)
        refine ⟨r, ?_, hr⟩
        rw [E_V_eq]
        show e_tv E_C (E_V 202) e_t202_71 [192, p, u, x3, x4] M = _
        unfold e_t202_71
        simp [zq_a, zq_b, zq_c, zq_d, zq_e, zq_f, zq_g, zq_h, zq_i, zq_j, zq_k, zq_l, zq_m, zq_n, zq_o, zq_p, zq_q, zq_r, zq_s, zq_t, zq_u, zq_v, zq_w, zq_x, zq_y, zq_z, zq_A, zq_B, zq_C, zq_D, zq_E, zq_F, zq_G, zq_H, zq_I, zq_J, zq_K, zq_L, ↓zq_M, ↓zq_N, ↓zq_O, ↓zq_P, ↓zq_Q, ↓zq_R, zq_S, zq_T, zq_U, zq_V, zq_W, zq_X, zq_Y, zq_Z, zq_0, zq_1, zq_2, zq_3, zq_4, zq_5, ↓zq_6, ↓zq_7, ↓zq_8, ↓zq_9, ↓zq_aa, zq_ab, zq_ac, zq_ad, zq_ae, zq_af, zq_ag, ↓zq_ah, ↓zq_ai, ↓zq_aj, zq_ak, ↓zq_al, ↓zq_am, e_b1, e_b2, x_o1, x_o2, q, q_n, kl, c1, c1_n, w4, k]
      · refine ⟨x3, ?_, by omega, by omega⟩
        rw [E_V_eq]
        show e_tv E_C (E_V 202) e_t202_71 [192, p, u, x3, x4] M = _
        unfold e_t202_71
        simp [zq_a, zq_b, zq_c, zq_d, zq_e, zq_f, zq_g, zq_h, zq_i, zq_j, zq_k, zq_l, zq_m, zq_n, zq_o, zq_p, zq_q, zq_r, zq_s, zq_t, zq_u, zq_v, zq_w, zq_x, zq_y, zq_z, zq_A, zq_B, zq_C, zq_D, zq_E, zq_F, zq_G, zq_H, zq_I, zq_J, zq_K, zq_L, ↓zq_M, ↓zq_N, ↓zq_O, ↓zq_P, ↓zq_Q, ↓zq_R, zq_S, zq_T, zq_U, zq_V, zq_W, zq_X, zq_Y, zq_Z, zq_0, zq_1, zq_2, zq_3, zq_4, zq_5, ↓zq_6, ↓zq_7, ↓zq_8, ↓zq_9, ↓zq_aa, zq_ab, zq_ac, zq_ad, zq_ae, zq_af, zq_ag, ↓zq_ah, ↓zq_ai, ↓zq_aj, zq_ak, ↓zq_al, ↓zq_am, e_b1, e_b2, x_o1, x_o2, q, q_n, kl, c1, c1_n]
    · refine ⟨x3, ?_, by omega, by omega⟩
      rw [E_V_eq]
      show e_tv E_C (E_V 202) e_t202_71 [192, p, u, x3, x4] M = _
      unfold e_t202_71
      simp [zq_a, zq_b, zq_c, zq_d, zq_e, zq_f, zq_g, zq_h, zq_i, zq_j, zq_k, zq_l, zq_m, zq_n, zq_o, zq_p, zq_q, zq_r, zq_s, zq_t, zq_u, zq_v, zq_w, zq_x, zq_y, zq_z, zq_A, zq_B, zq_C, zq_D, zq_E, zq_F, zq_G, zq_H, zq_I, zq_J, zq_K, zq_L, ↓zq_M, ↓zq_N, ↓zq_O, ↓zq_P, ↓zq_Q, ↓zq_R, zq_S, zq_T, zq_U, zq_V, zq_W, zq_X, zq_Y, zq_Z, zq_0, zq_1, zq_2, zq_3, zq_4, zq_5, ↓zq_6, ↓zq_7, ↓zq_8, ↓zq_9, ↓zq_aa, zq_ab, zq_ac, zq_ad, zq_ae, zq_af, zq_ag, ↓zq_ah, ↓zq_ai, ↓zq_aj, zq_ak, ↓zq_al, ↓zq_am, e_b1, e_b2, x_o1, x_o2, q, q_n]
theorem r_cur_lo_202 {b p u : Int} {M : EM} (hE : r_E M) (hb : b ≤ 40) (hp : r_cl (r_G M) b p ∨ r_rw (r_G M) b p) : r_P 202 [192, p, u] M := by
  have h40 := r_lo_p hb hp
  have kk : E_C 170 [192, p] M = some (r_G M (28 * p), M) := r_kind h40
  obtain ⟨r, k, hr⟩ := r_cur_down_202 (u := u) hE hb hp 99 99 0 (by decide) (by decide) (by decide)
  refine ⟨r, ?_, hr⟩
  rcases hp with hp | hp
  · have a3 := hp.2.2.1
    rw [r_ent (show e_rok 202 [192, p, u] = true from decide_eq_true r_ref)]
    show e_tv E_C (E_V 202) e_t202_0 [192, p, u, 0, 0] M = _
    unfold e_t202_0
    simp [zq_a, zq_b, zq_c, zq_d, zq_e, zq_f, zq_g, zq_h, zq_i, zq_j, zq_k, zq_l, zq_m, zq_n, zq_o, zq_p, zq_q, zq_r, zq_s, zq_t, zq_u, zq_v, zq_w, zq_x, zq_y, zq_z, zq_A, zq_B, zq_C, zq_D, zq_E, zq_F, zq_G, zq_H, zq_I, zq_J, zq_K, zq_L, ↓zq_M, ↓zq_N, ↓zq_O, ↓zq_P, ↓zq_Q, ↓zq_R, zq_S, zq_T, zq_U, zq_V, zq_W, zq_X, zq_Y, zq_Z, zq_0, zq_1, zq_2, zq_3, zq_4, zq_5, ↓zq_6, ↓zq_7, ↓zq_8, ↓zq_9, ↓zq_aa, zq_ab, zq_ac, zq_ad, zq_ae, zq_af, zq_ag, ↓zq_ah, ↓zq_ai, ↓zq_aj, zq_ak, ↓zq_al, ↓zq_am, e_b1, e_b2, x_o1, x_o2, kk, a3, k]
  · have a3 := hp.2.2.1
    rw [r_ent (show e_rok 202 [192, p, u] = true from decide_eq_true r_ref)]
    show e_tv E_C (E_V 202) e_t202_0 [192, p, u, 0, 0] M = _
    unfold e_t202_0
    simp [zq_a, zq_b, zq_c, zq_d, zq_e, zq_f, zq_g, zq_h, zq_i, zq_j, zq_k, zq_l, zq_m, zq_n, zq_o, zq_p, zq_q, zq_r, zq_s, zq_t, zq_u, zq_v, zq_w, zq_x, zq_y, zq_z, zq_A, zq_B, zq_C, zq_D, zq_E, zq_F, zq_G, zq_H, zq_I, zq_J, zq_K, zq_L, ↓zq_M, ↓zq_N, ↓zq_O, ↓zq_P, ↓zq_Q, ↓zq_R, zq_S, zq_T, zq_U, zq_V, zq_W, zq_X, zq_Y, zq_Z, zq_0, zq_1, zq_2, zq_3, zq_4, zq_5, ↓zq_6, ↓zq_7, ↓zq_8, ↓zq_9, ↓zq_aa, zq_ab, zq_ac, zq_ad, zq_ae, zq_af, zq_ag, ↓zq_ah, ↓zq_ai, ↓zq_aj, zq_ak, ↓zq_al, ↓zq_am, e_b1, e_b2, x_o1, x_o2, kk, a3, k]
theorem r_cur_down_306 {b p u : Int} {M : EM} (hE : r_E M) (hb : b ≤ 40) (hp : r_cl (r_G M) b p ∨ r_rw (r_G M) b p) : ∀ (m : Nat) (x3 x4 : Int), x3.toNat ≤ m → 0 ≤ x3 → x3 ≤ 99 → ∃ r, E_V 306 71 [192, p, u, x3, x4] M = some (r, M) ∧ -2147483648 ≤ r ∧ r ≤ 2147483647 := by
  intro m
  induction m with
  | zero =>
    intro x3 x4 h5 h0 h1
    have q : x3 = 0 := by omega
    refine ⟨0, ?_, by decide, by decide⟩
    subst q
    rw [E_V_eq]
    show e_tv E_C (E_V 306) e_t306_71 [192, p, u, 0, x4] M = _
    unfold e_t306_71
    simp [zq_a, zq_b, zq_c, zq_d, zq_e, zq_f, zq_g, zq_h, zq_i, zq_j, zq_k, zq_l, zq_m, zq_n, zq_o, zq_p, zq_q, zq_r, zq_s, zq_t, zq_u, zq_v, zq_w, zq_x, zq_y, zq_z, zq_A, zq_B, zq_C, zq_D, zq_E, zq_F, zq_G, zq_H, zq_I, zq_J, zq_K, zq_L, ↓zq_M, ↓zq_N, ↓zq_O, ↓zq_P, ↓zq_Q, ↓zq_R, zq_S, zq_T, zq_U, zq_V, zq_W, zq_X, zq_Y, zq_Z, zq_0, zq_1, zq_2, zq_3, zq_4, zq_5, ↓zq_6, ↓zq_7, ↓zq_8, ↓zq_9, ↓zq_aa, zq_ab, zq_ac, zq_ad, zq_ae, zq_af, zq_ag, ↓zq_ah, ↓zq_ai, ↓zq_aj, zq_ak, ↓zq_al, ↓zq_am, e_b1, e_b2, x_o1, x_o2]
  | succ m ih =>
    intro x3 x4 h5 h0 h1
    obtain ⟨l, kl, hl⟩ := r_lowPush (c := x3) hE hb hp
    rcases x_lt 0 x3 with ⟨q, q_n⟩ | ⟨q, q_n⟩
    · rcases x_lt l u with ⟨c1, c1_n⟩ | ⟨c1, c1_n⟩
      · have w4 : e_w (x3 + -1) = x3 - 1 := a_w_id (by omega) (by omega)
        obtain ⟨r, k, hr⟩ := ih (x3 - 1) x4 (by omega) (by omega) (by omega)
        refine ⟨r, ?_, hr⟩
        rw [E_V_eq]
        show e_tv E_C (E_V 306) e_t306_71 [192, p, u, x3, x4] M = _
        unfold e_t306_71
        simp [zq_a, zq_b, zq_c, zq_d, zq_e, zq_f, zq_g, zq_h, zq_i, zq_j, zq_k, zq_l, zq_m, zq_n, zq_o, zq_p, zq_q, zq_r, zq_s, zq_t, zq_u, zq_v, zq_w, zq_x, zq_y, zq_z, zq_A, zq_B, zq_C, zq_D, zq_E, zq_F, zq_G, zq_H, zq_I, zq_J, zq_K, zq_L, ↓zq_M, ↓zq_N, ↓zq_O, ↓zq_P, ↓zq_Q, ↓zq_R, zq_S, zq_T, zq_U, zq_V, zq_W, zq_X, zq_Y, zq_Z, zq_0, zq_1, zq_2, zq_3, zq_4, zq_5, ↓zq_6, ↓zq_7, ↓zq_8, ↓zq_9, ↓zq_aa, zq_ab, zq_ac, zq_ad, zq_ae, zq_af, zq_ag, ↓zq_ah, ↓zq_ai, ↓zq_aj, zq_ak, ↓zq_al, ↓zq_am, e_b1, e_b2, x_o1, x_o2, q, q_n, kl, c1, c1_n, w4, k]
      · refine ⟨x3, ?_, by omega, by omega⟩
        rw [E_V_eq]
        show e_tv E_C (E_V 306) e_t306_71 [192, p, u, x3, x4] M = _
        unfold e_t306_71
        simp [zq_a, zq_b, zq_c, zq_d, zq_e, zq_f, zq_g, zq_h, zq_i, zq_j, zq_k, zq_l, zq_m, zq_n, zq_o, zq_p, zq_q, zq_r, zq_s, zq_t, zq_u, zq_v, zq_w, zq_x, zq_y, zq_z, zq_A, zq_B, zq_C, zq_D, zq_E, zq_F, zq_G, zq_H, zq_I, zq_J, zq_K, zq_L, ↓zq_M, ↓zq_N, ↓zq_O, ↓zq_P, ↓zq_Q, ↓zq_R, zq_S, zq_T, zq_U, zq_V, zq_W, zq_X, zq_Y, zq_Z, zq_0, zq_1, zq_2, zq_3, zq_4, zq_5, ↓zq_6, ↓zq_7, ↓zq_8, ↓zq_9, ↓zq_aa, zq_ab, zq_ac, zq_ad, zq_ae, zq_af, zq_ag, ↓zq_ah, ↓zq_ai, ↓zq_aj, zq_ak, ↓zq_al, ↓zq_am, e_b1, e_b2, x_o1, x_o2, q, q_n, kl, c1, c1_n]
    · refine ⟨x3, ?_, by omega, by omega⟩
      rw [E_V_eq]
      show e_tv E_C (E_V 306) e_t306_71 [192, p, u, x3, x4] M = _
      unfold e_t306_71
      simp [zq_a, zq_b, zq_c, zq_d, zq_e, zq_f, zq_g, zq_h, zq_i, zq_j, zq_k, zq_l, zq_m, zq_n, zq_o, zq_p, zq_q, zq_r, zq_s, zq_t, zq_u, zq_v, zq_w, zq_x, zq_y, zq_z, zq_A, zq_B, zq_C, zq_D, zq_E, zq_F, zq_G, zq_H, zq_I, zq_J, zq_K, zq_L, ↓zq_M, ↓zq_N, ↓zq_O, ↓zq_P, ↓zq_Q, ↓zq_R, zq_S, zq_T, zq_U, zq_V, zq_W, zq_X, zq_Y, zq_Z, zq_0, zq_1, zq_2, zq_3, zq_4, zq_5, ↓zq_6, ↓zq_7, ↓zq_8, ↓zq_9, ↓zq_aa, zq_ab, zq_ac, zq_ad, zq_ae, zq_af, zq_ag, ↓zq_ah, ↓zq_ai, ↓zq_aj, zq_ak, ↓zq_al, ↓zq_am, e_b1, e_b2, x_o1, x_o2, q, q_n]
theorem r_cur_lo_306 {b p u : Int} {M : EM} (hE : r_E M) (hb : b ≤ 40) (hp : r_cl (r_G M) b p ∨ r_rw (r_G M) b p) : r_P 306 [192, p, u] M := by
  have h40 := r_lo_p hb hp
  have kk : E_C 170 [192, p] M = some (r_G M (28 * p), M) := r_kind h40
  obtain ⟨r, k, hr⟩ := r_cur_down_306 (u := u) hE hb hp 99 99 0 (by decide) (by decide) (by decide)
  refine ⟨r, ?_, hr⟩
  rcases hp with hp | hp
  · have a3 := hp.2.2.1
    rw [r_ent (show e_rok 306 [192, p, u] = true from decide_eq_true r_ref)]
    show e_tv E_C (E_V 306) e_t306_0 [192, p, u, 0, 0] M = _
    unfold e_t306_0
    simp [zq_a, zq_b, zq_c, zq_d, zq_e, zq_f, zq_g, zq_h, zq_i, zq_j, zq_k, zq_l, zq_m, zq_n, zq_o, zq_p, zq_q, zq_r, zq_s, zq_t, zq_u, zq_v, zq_w, zq_x, zq_y, zq_z, zq_A, zq_B, zq_C, zq_D, zq_E, zq_F, zq_G, zq_H, zq_I, zq_J, zq_K, zq_L, ↓zq_M, ↓zq_N, ↓zq_O, ↓zq_P, ↓zq_Q, ↓zq_R, zq_S, zq_T, zq_U, zq_V, zq_W, zq_X, zq_Y, zq_Z, zq_0, zq_1, zq_2, zq_3, zq_4, zq_5, ↓zq_6, ↓zq_7, ↓zq_8, ↓zq_9, ↓zq_aa, zq_ab, zq_ac, zq_ad, zq_ae, zq_af, zq_ag, ↓zq_ah, ↓zq_ai, ↓zq_aj, zq_ak, ↓zq_al, ↓zq_am, e_b1, e_b2, x_o1, x_o2, kk, a3, k]
  · have a3 := hp.2.2.1
    rw [r_ent (show e_rok 306 [192, p, u] = true from decide_eq_true r_ref)]
    show e_tv E_C (E_V 306) e_t306_0 [192, p, u, 0, 0] M = _
    unfold e_t306_0
    simp [zq_a, zq_b, zq_c, zq_d, zq_e, zq_f, zq_g, zq_h, zq_i, zq_j, zq_k, zq_l, zq_m, zq_n, zq_o, zq_p, zq_q, zq_r, zq_s, zq_t, zq_u, zq_v, zq_w, zq_x, zq_y, zq_z, zq_A, zq_B, zq_C, zq_D, zq_E, zq_F, zq_G, zq_H, zq_I, zq_J, zq_K, zq_L, ↓zq_M, ↓zq_N, ↓zq_O, ↓zq_P, ↓zq_Q, ↓zq_R, zq_S, zq_T, zq_U, zq_V, zq_W, zq_X, zq_Y, zq_Z, zq_0, zq_1, zq_2, zq_3, zq_4, zq_5, ↓zq_6, ↓zq_7, ↓zq_8, ↓zq_9, ↓zq_aa, zq_ab, zq_ac, zq_ad, zq_ae, zq_af, zq_ag, ↓zq_ah, ↓zq_ai, ↓zq_aj, zq_ak, ↓zq_al, ↓zq_am, e_b1, e_b2, x_o1, x_o2, kk, a3, k]
theorem r_cur_down_307 {b p u : Int} {M : EM} (hE : r_E M) (hb : b ≤ 40) (hp : r_cl (r_G M) b p ∨ r_rw (r_G M) b p) : ∀ (m : Nat) (x3 x4 : Int), x3.toNat ≤ m → 0 ≤ x3 → x3 ≤ 99 → ∃ r, E_V 307 71 [192, p, u, x3, x4] M = some (r, M) ∧ -2147483648 ≤ r ∧ r ≤ 2147483647 := by
  intro m
  induction m with
  | zero =>
    intro x3 x4 h5 h0 h1
    have q : x3 = 0 := by omega
    refine ⟨0, ?_, by decide, by decide⟩
    subst q
    rw [E_V_eq]
    show e_tv E_C (E_V 307) e_t307_71 [192, p, u, 0, x4] M = _
    unfold e_t307_71
    simp [zq_a, zq_b, zq_c, zq_d, zq_e, zq_f, zq_g, zq_h, zq_i, zq_j, zq_k, zq_l, zq_m, zq_n, zq_o, zq_p, zq_q, zq_r, zq_s, zq_t, zq_u, zq_v, zq_w, zq_x, zq_y, zq_z, zq_A, zq_B, zq_C, zq_D, zq_E, zq_F, zq_G, zq_H, zq_I, zq_J, zq_K, zq_L, ↓zq_M, ↓zq_N, ↓zq_O, ↓zq_P, ↓zq_Q, ↓zq_R, zq_S, zq_T, zq_U, zq_V, zq_W, zq_X, zq_Y, zq_Z, zq_0, zq_1, zq_2, zq_3, zq_4, zq_5, ↓zq_6, ↓zq_7, ↓zq_8, ↓zq_9, ↓zq_aa, zq_ab, zq_ac, zq_ad, zq_ae, zq_af, zq_ag, ↓zq_ah, ↓zq_ai, ↓zq_aj, zq_ak, ↓zq_al, ↓zq_am, e_b1, e_b2, x_o1, x_o2]
  | succ m ih =>
    intro x3 x4 h5 h0 h1
    obtain ⟨l, kl, hl⟩ := r_lowPush (c := x3) hE hb hp
    rcases x_lt 0 x3 with ⟨q, q_n⟩ | ⟨q, q_n⟩
    · rcases x_lt l u with ⟨c1, c1_n⟩ | ⟨c1, c1_n⟩
      · have w4 : e_w (x3 + -1) = x3 - 1 := a_w_id (by omega) (by omega)
        obtain ⟨r, k, hr⟩ := ih (x3 - 1) x4 (by omega) (by omega) (by omega)
        refine ⟨r, ?_, hr⟩
        rw [E_V_eq]
        show e_tv E_C (E_V 307) e_t307_71 [192, p, u, x3, x4] M = _
        unfold e_t307_71
        simp [zq_a, zq_b, zq_c, zq_d, zq_e, zq_f, zq_g, zq_h, zq_i, zq_j, zq_k, zq_l, zq_m, zq_n, zq_o, zq_p, zq_q, zq_r, zq_s, zq_t, zq_u, zq_v, zq_w, zq_x, zq_y, zq_z, zq_A, zq_B, zq_C, zq_D, zq_E, zq_F, zq_G, zq_H, zq_I, zq_J, zq_K, zq_L, ↓zq_M, ↓zq_N, ↓zq_O, ↓zq_P, ↓zq_Q, ↓zq_R, zq_S, zq_T, zq_U, zq_V, zq_W, zq_X, zq_Y, zq_Z, zq_0, zq_1, zq_2, zq_3, zq_4, zq_5, ↓zq_6, ↓zq_7, ↓zq_8, ↓zq_9, ↓zq_aa, zq_ab, zq_ac, zq_ad, zq_ae, zq_af, zq_ag, ↓zq_ah, ↓zq_ai, ↓zq_aj, zq_ak, ↓zq_al, ↓zq_am, e_b1, e_b2, x_o1, x_o2, q, q_n, kl, c1, c1_n, w4, k]
      · refine ⟨x3, ?_, by omega, by omega⟩
        rw [E_V_eq]
        show e_tv E_C (E_V 307) e_t307_71 [192, p, u, x3, x4] M = _
        unfold e_t307_71
        simp [zq_a, zq_b, zq_c, zq_d, zq_e, zq_f, zq_g, zq_h, zq_i, zq_j, zq_k, zq_l, zq_m, zq_n, zq_o, zq_p, zq_q, zq_r, zq_s, zq_t, zq_u, zq_v, zq_w, zq_x, zq_y, zq_z, zq_A, zq_B, zq_C, zq_D, zq_E, zq_F, zq_G, zq_H, zq_I, zq_J, zq_K, zq_L, ↓zq_M, ↓zq_N, ↓zq_O, ↓zq_P, ↓zq_Q, ↓zq_R, zq_S, zq_T, zq_U, zq_V, zq_W, zq_X, zq_Y, zq_Z, zq_0, zq_1, zq_2, zq_3, zq_4, zq_5, ↓zq_6, ↓zq_7, ↓zq_8, ↓zq_9, ↓zq_aa, zq_ab, zq_ac, zq_ad, zq_ae, zq_af, zq_ag, ↓zq_ah, ↓zq_ai, ↓zq_aj, zq_ak, ↓zq_al, ↓zq_am, e_b1, e_b2, x_o1, x_o2, q, q_n, kl, c1, c1_n]
    · refine ⟨x3, ?_, by omega, by omega⟩
      rw [E_V_eq]
      show e_tv E_C (E_V 307) e_t307_71 [192, p, u, x3, x4] M = _
      unfold e_t307_71
      simp [zq_a, zq_b, zq_c, zq_d, zq_e, zq_f, zq_g, zq_h, zq_i, zq_j, zq_k, zq_l, zq_m, zq_n, zq_o, zq_p, zq_q, zq_r, zq_s, zq_t, zq_u, zq_v, zq_w, zq_x, zq_y, zq_z, zq_A, zq_B, zq_C, zq_D, zq_E, zq_F, zq_G, zq_H, zq_I, zq_J, zq_K, zq_L, ↓zq_M, ↓zq_N, ↓zq_O, ↓zq_P, ↓zq_Q, ↓zq_R, zq_S, zq_T, zq_U, zq_V, zq_W, zq_X, zq_Y, zq_Z, zq_0, zq_1, zq_2, zq_3, zq_4, zq_5, ↓zq_6, ↓zq_7, ↓zq_8, ↓zq_9, ↓zq_aa, zq_ab, zq_ac, zq_ad, zq_ae, zq_af, zq_ag, ↓zq_ah, ↓zq_ai, ↓zq_aj, zq_ak, ↓zq_al, ↓zq_am, e_b1, e_b2, x_o1, x_o2, q, q_n]
theorem r_cur_lo_307 {b p u : Int} {M : EM} (hE : r_E M) (hb : b ≤ 40) (hp : r_cl (r_G M) b p ∨ r_rw (r_G M) b p) : r_P 307 [192, p, u] M := by
  have h40 := r_lo_p hb hp
  have kk : E_C 170 [192, p] M = some (r_G M (28 * p), M) := r_kind h40
  obtain ⟨r, k, hr⟩ := r_cur_down_307 (u := u) hE hb hp 99 99 0 (by decide) (by decide) (by decide)
  refine ⟨r, ?_, hr⟩
  rcases hp with hp | hp
  · have a3 := hp.2.2.1
    rw [r_ent (show e_rok 307 [192, p, u] = true from decide_eq_true r_ref)]
    show e_tv E_C (E_V 307) e_t307_0 [192, p, u, 0, 0] M = _
    unfold e_t307_0
    simp [zq_a, zq_b, zq_c, zq_d, zq_e, zq_f, zq_g, zq_h, zq_i, zq_j, zq_k, zq_l, zq_m, zq_n, zq_o, zq_p, zq_q, zq_r, zq_s, zq_t, zq_u, zq_v, zq_w, zq_x, zq_y, zq_z, zq_A, zq_B, zq_C, zq_D, zq_E, zq_F, zq_G, zq_H, zq_I, zq_J, zq_K, zq_L, ↓zq_M, ↓zq_N, ↓zq_O, ↓zq_P, ↓zq_Q, ↓zq_R, zq_S, zq_T, zq_U, zq_V, zq_W, zq_X, zq_Y, zq_Z, zq_0, zq_1, zq_2, zq_3, zq_4, zq_5, ↓zq_6, ↓zq_7, ↓zq_8, ↓zq_9, ↓zq_aa, zq_ab, zq_ac, zq_ad, zq_ae, zq_af, zq_ag, ↓zq_ah, ↓zq_ai, ↓zq_aj, zq_ak, ↓zq_al, ↓zq_am, e_b1, e_b2, x_o1, x_o2, kk, a3, k]
  · have a3 := hp.2.2.1
    rw [r_ent (show e_rok 307 [192, p, u] = true from decide_eq_true r_ref)]
    show e_tv E_C (E_V 307) e_t307_0 [192, p, u, 0, 0] M = _
    unfold e_t307_0
    simp [zq_a, zq_b, zq_c, zq_d, zq_e, zq_f, zq_g, zq_h, zq_i, zq_j, zq_k, zq_l, zq_m, zq_n, zq_o, zq_p, zq_q, zq_r, zq_s, zq_t, zq_u, zq_v, zq_w, zq_x, zq_y, zq_z, zq_A, zq_B, zq_C, zq_D, zq_E, zq_F, zq_G, zq_H, zq_I, zq_J, zq_K, zq_L, ↓zq_M, ↓zq_N, ↓zq_O, ↓zq_P, ↓zq_Q, ↓zq_R, zq_S, zq_T, zq_U, zq_V, zq_W, zq_X, zq_Y, zq_Z, zq_0, zq_1, zq_2, zq_3, zq_4, zq_5, ↓zq_6, ↓zq_7, ↓zq_8, ↓zq_9, ↓zq_aa, zq_ab, zq_ac, zq_ad, zq_ae, zq_af, zq_ag, ↓zq_ah, ↓zq_ai, ↓zq_aj, zq_ak, ↓zq_al, ↓zq_am, e_b1, e_b2, x_o1, x_o2, kk, a3, k]
theorem r_cur_sum_306 {p u : Int} {M : EM} (hE : r_E M) (hp : 0 ≤ p ∧ p < 40) (hn : r_G M (28 * p + 2) ≤ 6) (hm : ∀ k, 0 ≤ k → k < r_G M (28 * p + 2) → r_cl (r_G M) p (r_G M (28 * p + 3 + k)) ∨ r_rw (r_G M) p (r_G M (28 * p + 3 + k))) : ∀ (m : Nat) (x3 x4 : Int), (6 - x4).toNat ≤ m → 0 ≤ x4 → (-2147483648 ≤ x3 ∧ x3 ≤ 2147483647) → ∃ r, E_V 306 35 [192, p, u, x3, x4] M = some (r, M) ∧ -2147483648 ≤ r ∧ r ≤ 2147483647 := by
  have km : E_C 171 [192, p] M = some (r_G M (28 * p + 2), M) := r_many hp
  have hend : ∀ x3 x4, ¬ (x4 < r_G M (28 * p + 2)) → (-2147483648 ≤ x3 ∧ x3 ≤ 2147483647) → ∃ r, E_V 306 35 [192, p, u, x3, x4] M = some (r, M) ∧ -2147483648 ≤ r ∧ r ≤ 2147483647 := by
    intro x3 x4 q h4
    refine ⟨x3, ?_, h4⟩
    rw [E_V_eq]
    show e_tv E_C (E_V 306) e_t306_35 [192, p, u, x3, x4] M = _
    unfold e_t306_35
    simp [zq_a, zq_b, zq_c, zq_d, zq_e, zq_f, zq_g, zq_h, zq_i, zq_j, zq_k, zq_l, zq_m, zq_n, zq_o, zq_p, zq_q, zq_r, zq_s, zq_t, zq_u, zq_v, zq_w, zq_x, zq_y, zq_z, zq_A, zq_B, zq_C, zq_D, zq_E, zq_F, zq_G, zq_H, zq_I, zq_J, zq_K, zq_L, ↓zq_M, ↓zq_N, ↓zq_O, ↓zq_P, ↓zq_Q, ↓zq_R, zq_S, zq_T, zq_U, zq_V, zq_W, zq_X, zq_Y, zq_Z, zq_0, zq_1, zq_2, zq_3, zq_4, zq_5, ↓zq_6, ↓zq_7, ↓zq_8, ↓zq_9, ↓zq_aa, zq_ab, zq_ac, zq_ad, zq_ae, zq_af, zq_ag, ↓zq_ah, ↓zq_ai, ↓zq_aj, zq_ak, ↓zq_al, ↓zq_am, e_b1, e_b2, x_o1, x_o2, q, km]
  intro m
  induction m with
  | zero => intro x3 x4 h5 h0 h4; exact hend x3 x4 (by omega) h4
  | succ m ih =>
    intro x3 x4 h5 h0 h4
    rcases x_lt x4 (r_G M (28 * p + 2)) with ⟨q, q_n⟩ | ⟨q, q_n⟩
    · have w4 : e_w (x4 + 1) = x4 + 1 := a_w_id (by omega) (by omega)
      have ko : E_C 172 [192, p, x4] M = some (r_G M (28 * p + 3 + x4), M) := r_of hp ⟨h0, by omega⟩
      obtain ⟨t, kt, -⟩ := r_cur_lo_307 (u := u) hE (by omega) (hm x4 h0 q)
      obtain ⟨r, k, hr⟩ := ih (e_w (x3 + t)) (x4 + 1) (by omega) (by omega) (a_w _)
      refine ⟨r, ?_, hr⟩
      rw [E_V_eq]
      show e_tv E_C (E_V 306) e_t306_35 [192, p, u, x3, x4] M = _
      unfold e_t306_35
      simp [zq_a, zq_b, zq_c, zq_d, zq_e, zq_f, zq_g, zq_h, zq_i, zq_j, zq_k, zq_l, zq_m, zq_n, zq_o, zq_p, zq_q, zq_r, zq_s, zq_t, zq_u, zq_v, zq_w, zq_x, zq_y, zq_z, zq_A, zq_B, zq_C, zq_D, zq_E, zq_F, zq_G, zq_H, zq_I, zq_J, zq_K, zq_L, ↓zq_M, ↓zq_N, ↓zq_O, ↓zq_P, ↓zq_Q, ↓zq_R, zq_S, zq_T, zq_U, zq_V, zq_W, zq_X, zq_Y, zq_Z, zq_0, zq_1, zq_2, zq_3, zq_4, zq_5, ↓zq_6, ↓zq_7, ↓zq_8, ↓zq_9, ↓zq_aa, zq_ab, zq_ac, zq_ad, zq_ae, zq_af, zq_ag, ↓zq_ah, ↓zq_ai, ↓zq_aj, zq_ak, ↓zq_al, ↓zq_am, e_b1, e_b2, x_o1, x_o2, q, q_n, km, ko, kt, w4, k]
    · exact hend x3 x4 q h4
theorem r_cur_fd_306 {b p u : Int} {M : EM} (hE : r_E M) (hb : b ≤ 40) (hp : r_fd (r_G M) b p) : r_P 306 [192, p, u] M := by
  obtain ⟨a1, a2, a3, a4, a5, a6⟩ := hp
  have kk : E_C 170 [192, p] M = some (r_G M (28 * p), M) := r_kind ⟨a1, by omega⟩
  obtain ⟨r, k, hr⟩ := r_cur_sum_306 (u := u) hE ⟨a1, by omega⟩ a5 a6 6 0 0 (by decide) (by decide) (by decide)
  refine ⟨r, ?_, hr⟩
  rw [r_ent (show e_rok 306 [192, p, u] = true from decide_eq_true r_ref)]
  show e_tv E_C (E_V 306) e_t306_0 [192, p, u, 0, 0] M = _
  unfold e_t306_0
  simp [zq_a, zq_b, zq_c, zq_d, zq_e, zq_f, zq_g, zq_h, zq_i, zq_j, zq_k, zq_l, zq_m, zq_n, zq_o, zq_p, zq_q, zq_r, zq_s, zq_t, zq_u, zq_v, zq_w, zq_x, zq_y, zq_z, zq_A, zq_B, zq_C, zq_D, zq_E, zq_F, zq_G, zq_H, zq_I, zq_J, zq_K, zq_L, ↓zq_M, ↓zq_N, ↓zq_O, ↓zq_P, ↓zq_Q, ↓zq_R, zq_S, zq_T, zq_U, zq_V, zq_W, zq_X, zq_Y, zq_Z, zq_0, zq_1, zq_2, zq_3, zq_4, zq_5, ↓zq_6, ↓zq_7, ↓zq_8, ↓zq_9, ↓zq_aa, zq_ab, zq_ac, zq_ad, zq_ae, zq_af, zq_ag, ↓zq_ah, ↓zq_ai, ↓zq_aj, zq_ak, ↓zq_al, ↓zq_am, e_b1, e_b2, x_o1, x_o2, kk, a3, k]
theorem r_cur_sum_202 {p u : Int} {M : EM} (hE : r_E M) (hp : 0 ≤ p ∧ p < 40) (hn : r_G M (28 * p + 2) ≤ 6) (hm : ∀ k, 0 ≤ k → k < r_G M (28 * p + 2) → r_cl (r_G M) p (r_G M (28 * p + 3 + k)) ∨ r_rw (r_G M) p (r_G M (28 * p + 3 + k))) : ∀ (m : Nat) (x3 x4 : Int), (6 - x4).toNat ≤ m → 0 ≤ x4 → (-2147483648 ≤ x3 ∧ x3 ≤ 2147483647) → ∃ r, E_V 202 35 [192, p, u, x3, x4] M = some (r, M) ∧ -2147483648 ≤ r ∧ r ≤ 2147483647 := by
  have km : E_C 171 [192, p] M = some (r_G M (28 * p + 2), M) := r_many hp
  have hend : ∀ x3 x4, ¬ (x4 < r_G M (28 * p + 2)) → (-2147483648 ≤ x3 ∧ x3 ≤ 2147483647) → ∃ r, E_V 202 35 [192, p, u, x3, x4] M = some (r, M) ∧ -2147483648 ≤ r ∧ r ≤ 2147483647 := by
    intro x3 x4 q h4
    refine ⟨x3, ?_, h4⟩
    rw [E_V_eq]
    show e_tv E_C (E_V 202) e_t202_35 [192, p, u, x3, x4] M = _
    unfold e_t202_35
    simp [zq_a, zq_b, zq_c, zq_d, zq_e, zq_f, zq_g, zq_h, zq_i, zq_j, zq_k, zq_l, zq_m, zq_n, zq_o, zq_p, zq_q, zq_r, zq_s, zq_t, zq_u, zq_v, zq_w, zq_x, zq_y, zq_z, zq_A, zq_B, zq_C, zq_D, zq_E, zq_F, zq_G, zq_H, zq_I, zq_J, zq_K, zq_L, ↓zq_M, ↓zq_N, ↓zq_O, ↓zq_P, ↓zq_Q, ↓zq_R, zq_S, zq_T, zq_U, zq_V, zq_W, zq_X, zq_Y, zq_Z, zq_0, zq_1, zq_2, zq_3, zq_4, zq_5, ↓zq_6, ↓zq_7, ↓zq_8, ↓zq_9, ↓zq_aa, zq_ab, zq_ac, zq_ad, zq_ae, zq_af, zq_ag, ↓zq_ah, ↓zq_ai, ↓zq_aj, zq_ak, ↓zq_al, ↓zq_am, e_b1, e_b2, x_o1, x_o2, q, km]
  intro m
  induction m with
  | zero => intro x3 x4 h5 h0 h4; exact hend x3 x4 (by omega) h4
  | succ m ih =>
    intro x3 x4 h5 h0 h4
    rcases x_lt x4 (r_G M (28 * p + 2)) with ⟨q, q_n⟩ | ⟨q, q_n⟩
    · have w4 : e_w (x4 + 1) = x4 + 1 := a_w_id (by omega) (by omega)
      have ko : E_C 172 [192, p, x4] M = some (r_G M (28 * p + 3 + x4), M) := r_of hp ⟨h0, by omega⟩
      obtain ⟨t, kt, -⟩ := r_cur_lo_306 (u := u) hE (by omega) (hm x4 h0 q)
      obtain ⟨r, k, hr⟩ := ih (e_w (x3 + t)) (x4 + 1) (by omega) (by omega) (a_w _)
      refine ⟨r, ?_, hr⟩
      rw [E_V_eq]
      show e_tv E_C (E_V 202) e_t202_35 [192, p, u, x3, x4] M = _
      unfold e_t202_35
      simp [zq_a, zq_b, zq_c, zq_d, zq_e, zq_f, zq_g, zq_h, zq_i, zq_j, zq_k, zq_l, zq_m, zq_n, zq_o, zq_p, zq_q, zq_r, zq_s, zq_t, zq_u, zq_v, zq_w, zq_x, zq_y, zq_z, zq_A, zq_B, zq_C, zq_D, zq_E, zq_F, zq_G, zq_H, zq_I, zq_J, zq_K, zq_L, ↓zq_M, ↓zq_N, ↓zq_O, ↓zq_P, ↓zq_Q, ↓zq_R, zq_S, zq_T, zq_U, zq_V, zq_W, zq_X, zq_Y, zq_Z, zq_0, zq_1, zq_2, zq_3, zq_4, zq_5, ↓zq_6, ↓zq_7, ↓zq_8, ↓zq_9, ↓zq_aa, zq_ab, zq_ac, zq_ad, zq_ae, zq_af, zq_ag, ↓zq_ah, ↓zq_ai, ↓zq_aj, zq_ak, ↓zq_al, ↓zq_am, e_b1, e_b2, x_o1, x_o2, q, q_n, km, ko, kt, w4, k]
    · exact hend x3 x4 q h4
theorem r_cur_fd_202 {b p u : Int} {M : EM} (hE : r_E M) (hb : b ≤ 40) (hp : r_fd (r_G M) b p) : r_P 202 [192, p, u] M := by
  obtain ⟨a1, a2, a3, a4, a5, a6⟩ := hp
  have kk : E_C 170 [192, p] M = some (r_G M (28 * p), M) := r_kind ⟨a1, by omega⟩
  obtain ⟨r, k, hr⟩ := r_cur_sum_202 (u := u) hE ⟨a1, by omega⟩ a5 a6 6 0 0 (by decide) (by decide) (by decide)
  refine ⟨r, ?_, hr⟩
  rw [r_ent (show e_rok 202 [192, p, u] = true from decide_eq_true r_ref)]
  show e_tv E_C (E_V 202) e_t202_0 [192, p, u, 0, 0] M = _
  unfold e_t202_0
  simp [zq_a, zq_b, zq_c, zq_d, zq_e, zq_f, zq_g, zq_h, zq_i, zq_j, zq_k, zq_l, zq_m, zq_n, zq_o, zq_p, zq_q, zq_r, zq_s, zq_t, zq_u, zq_v, zq_w, zq_x, zq_y, zq_z, zq_A, zq_B, zq_C, zq_D, zq_E, zq_F, zq_G, zq_H, zq_I, zq_J, zq_K, zq_L, ↓zq_M, ↓zq_N, ↓zq_O, ↓zq_P, ↓zq_Q, ↓zq_R, zq_S, zq_T, zq_U, zq_V, zq_W, zq_X, zq_Y, zq_Z, zq_0, zq_1, zq_2, zq_3, zq_4, zq_5, ↓zq_6, ↓zq_7, ↓zq_8, ↓zq_9, ↓zq_aa, zq_ab, zq_ac, zq_ad, zq_ae, zq_af, zq_ag, ↓zq_ah, ↓zq_ai, ↓zq_aj, zq_ak, ↓zq_al, ↓zq_am, e_b1, e_b2, x_o1, x_o2, kk, a3, k]
theorem r_currentOf {b p u : Int} {M : EM} (hE : r_E M) (hb : b ≤ 40) (hp : r_pt (r_G M) b p) : r_P 202 [192, p, u] M := by
  rcases hp with hp | hp | hp | hp
  · exact r_cur_lo_202 hE hb (Or.inl hp)
  · exact r_cur_lo_202 hE hb (Or.inr hp)
  · exact r_cur_fd_202 hE hb hp
  · obtain ⟨a1, a2, a3, a4, a5⟩ := hp
    have kk : E_C 170 [192, p] M = some (r_G M (28 * p), M) := r_kind ⟨a1, by omega⟩
    have ko : E_C 172 [192, p, 0] M = some (r_G M (28 * p + 3), M) := by
      have h := r_of (M := M) (p := p) (k := 0) ⟨a1, by omega⟩ ⟨by decide, by decide⟩
      rw [Int.add_zero] at h
      exact h
    have h3 : r_P 306 [192, r_G M (28 * p + 3), u] M := by
      rcases a5 with h | h | h
      · exact r_cur_lo_306 hE (by omega) (Or.inl h)
      · exact r_cur_lo_306 hE (by omega) (Or.inr h)
      · exact r_cur_fd_306 hE (by omega) h
    obtain ⟨r, k, hr⟩ := h3
    refine ⟨r, ?_, hr⟩
    rw [r_ent (show e_rok 202 [192, p, u] = true from decide_eq_true r_ref)]
    show e_tv E_C (E_V 202) e_t202_0 [192, p, u, 0, 0] M = _
    unfold e_t202_0
    simp [zq_a, zq_b, zq_c, zq_d, zq_e, zq_f, zq_g, zq_h, zq_i, zq_j, zq_k, zq_l, zq_m, zq_n, zq_o, zq_p, zq_q, zq_r, zq_s, zq_t, zq_u, zq_v, zq_w, zq_x, zq_y, zq_z, zq_A, zq_B, zq_C, zq_D, zq_E, zq_F, zq_G, zq_H, zq_I, zq_J, zq_K, zq_L, ↓zq_M, ↓zq_N, ↓zq_O, ↓zq_P, ↓zq_Q, ↓zq_R, zq_S, zq_T, zq_U, zq_V, zq_W, zq_X, zq_Y, zq_Z, zq_0, zq_1, zq_2, zq_3, zq_4, zq_5, ↓zq_6, ↓zq_7, ↓zq_8, ↓zq_9, ↓zq_aa, zq_ab, zq_ac, zq_ad, zq_ae, zq_af, zq_ag, ↓zq_ah, ↓zq_ai, ↓zq_aj, zq_ak, ↓zq_al, ↓zq_am, e_b1, e_b2, x_o1, x_o2, kk, a3, ko, k]
