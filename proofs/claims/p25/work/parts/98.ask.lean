/-! hump, held, lit, strength of the reference -/
theorem r_hump_117 {p i u : Int} {M : EM} (hu : u ≤ 500 ∧ 0 ≤ u) {n later : Int} {r : Int} (k : E_V 212 25 [192, p, i, n, u + 1, later] M = some (r, M)) : E_V 212 117 [192, p, i, n, u, later] M = some (r, M) := by
  have w4 : e_w (u + 1) = u + 1 := a_w_id (by omega) (by omega)
  rw [E_V_eq]
  show e_tv E_C (E_V 212) e_t212_117 [192, p, i, n, u, later] M = _
  unfold e_t212_117
  simp [zq_a, zq_b, zq_c, zq_d, zq_e, zq_f, zq_g, zq_h, zq_i, zq_j, zq_k, zq_l, zq_m, zq_n, zq_o, zq_p, zq_q, zq_r, zq_s, zq_t, zq_u, zq_v, zq_w, zq_x, zq_y, zq_z, zq_A, zq_B, zq_C, zq_D, zq_E, zq_F, zq_G, zq_H, zq_I, zq_J, zq_K, zq_L, ↓zq_M, ↓zq_N, ↓zq_O, ↓zq_P, ↓zq_Q, ↓zq_R, zq_S, zq_T, zq_U, zq_V, zq_W, zq_X, zq_Y, zq_Z, zq_0, zq_1, zq_2, zq_3, zq_4, zq_5, ↓zq_6, ↓zq_7, ↓zq_8, ↓zq_9, ↓zq_aa, zq_ab, zq_ac, zq_ad, zq_ae, zq_af, zq_ag, ↓zq_ah, ↓zq_ai, ↓zq_aj, zq_ak, ↓zq_al, ↓zq_am, e_b1, e_b2, x_o1, x_o2, w4, k]
theorem r_hump_in {p i u : Int} {M : EM} (hM : a_M M) (hu : 1 ≤ u ∧ u < 500) (H : ∀ n later, ∃ r, E_V 212 25 [192, p, i, n, u + 1, later] M = some (r, M)) : ∀ (m : Nat) (n x5 : Int), (502 - x5).toNat ≤ m → 0 ≤ x5 → x5 ≤ 501 → ∃ r, E_V 212 59 [192, p, i, n, u, x5] M = some (r, M) := by
  obtain ⟨a, ka, ha⟩ := r_power (u := u) hM (by omega)
  intro m
  induction m with
  | zero => intro n x5 hm h0 h1; omega
  | succ m ih =>
    intro n x5 hm h0 h1
    obtain ⟨b, kb, hb⟩ := r_power (u := x5) hM h0
    by_cases q : x5 ≤ 500 ∧ b = a
    · obtain ⟨q, q1⟩ := q
      have w4 : e_w (x5 + 1) = x5 + 1 := a_w_id (by omega) (by omega)
      obtain ⟨r, k⟩ := ih n (x5 + 1) (by omega) (by omega) (by omega)
      refine ⟨r, ?_⟩
      subst q1
      rw [E_V_eq]
      show e_tv E_C (E_V 212) e_t212_59 [192, p, i, n, u, x5] M = _
      unfold e_t212_59
      simp [zq_a, zq_b, zq_c, zq_d, zq_e, zq_f, zq_g, zq_h, zq_i, zq_j, zq_k, zq_l, zq_m, zq_n, zq_o, zq_p, zq_q, zq_r, zq_s, zq_t, zq_u, zq_v, zq_w, zq_x, zq_y, zq_z, zq_A, zq_B, zq_C, zq_D, zq_E, zq_F, zq_G, zq_H, zq_I, zq_J, zq_K, zq_L, ↓zq_M, ↓zq_N, ↓zq_O, ↓zq_P, ↓zq_Q, ↓zq_R, zq_S, zq_T, zq_U, zq_V, zq_W, zq_X, zq_Y, zq_Z, zq_0, zq_1, zq_2, zq_3, zq_4, zq_5, ↓zq_6, ↓zq_7, ↓zq_8, ↓zq_9, ↓zq_aa, zq_ab, zq_ac, zq_ad, zq_ae, zq_af, zq_ag, ↓zq_ah, ↓zq_ai, ↓zq_aj, zq_ak, ↓zq_al, ↓zq_am, e_b1, e_b2, x_o1, x_o2, q, ka, kb, w4, k]
    · have key : ∀ (t : EO), (e_tv E_C (E_V 212) e_t212_59 [192, p, i, n, u, x5] M = t) → E_V 212 59 [192, p, i, n, u, x5] M = t := fun t h => (E_V_eq 212 59 _ M).trans h
      rcases x_le a b with ⟨c1, c1_n⟩ | ⟨c1, c1_n⟩
      · obtain ⟨r, k⟩ := H n x5
        have k1 := r_hump_117 (u := u) ⟨by omega, by omega⟩ k
        refine ⟨r, key _ ?_⟩
        unfold e_t212_59
        rcases x_le x5 500 with ⟨q0, q0_n⟩ | ⟨q0, q0_n⟩
        · have q1 : ¬ (b = a) := fun e => q ⟨q0, e⟩
          simp [zq_a, zq_b, zq_c, zq_d, zq_e, zq_f, zq_g, zq_h, zq_i, zq_j, zq_k, zq_l, zq_m, zq_n, zq_o, zq_p, zq_q, zq_r, zq_s, zq_t, zq_u, zq_v, zq_w, zq_x, zq_y, zq_z, zq_A, zq_B, zq_C, zq_D, zq_E, zq_F, zq_G, zq_H, zq_I, zq_J, zq_K, zq_L, ↓zq_M, ↓zq_N, ↓zq_O, ↓zq_P, ↓zq_Q, ↓zq_R, zq_S, zq_T, zq_U, zq_V, zq_W, zq_X, zq_Y, zq_Z, zq_0, zq_1, zq_2, zq_3, zq_4, zq_5, ↓zq_6, ↓zq_7, ↓zq_8, ↓zq_9, ↓zq_aa, zq_ab, zq_ac, zq_ad, zq_ae, zq_af, zq_ag, ↓zq_ah, ↓zq_ai, ↓zq_aj, zq_ak, ↓zq_al, ↓zq_am, e_b1, e_b2, x_o1, x_o2, q0, q0_n, q1, ka, kb, c1, c1_n, k1]
        · simp [zq_a, zq_b, zq_c, zq_d, zq_e, zq_f, zq_g, zq_h, zq_i, zq_j, zq_k, zq_l, zq_m, zq_n, zq_o, zq_p, zq_q, zq_r, zq_s, zq_t, zq_u, zq_v, zq_w, zq_x, zq_y, zq_z, zq_A, zq_B, zq_C, zq_D, zq_E, zq_F, zq_G, zq_H, zq_I, zq_J, zq_K, zq_L, ↓zq_M, ↓zq_N, ↓zq_O, ↓zq_P, ↓zq_Q, ↓zq_R, zq_S, zq_T, zq_U, zq_V, zq_W, zq_X, zq_Y, zq_Z, zq_0, zq_1, zq_2, zq_3, zq_4, zq_5, ↓zq_6, ↓zq_7, ↓zq_8, ↓zq_9, ↓zq_aa, zq_ab, zq_ac, zq_ad, zq_ae, zq_af, zq_ag, ↓zq_ah, ↓zq_ai, ↓zq_aj, zq_ak, ↓zq_al, ↓zq_am, e_b1, e_b2, x_o1, x_o2, q0, q0_n, ka, kb, c1, c1_n, k1]
      · by_cases c2 : n = i
        · refine ⟨u, key _ ?_⟩
          subst c2
          unfold e_t212_59
          rcases x_le x5 500 with ⟨q0, q0_n⟩ | ⟨q0, q0_n⟩
          · have q1 : ¬ (b = a) := fun e => q ⟨q0, e⟩
            simp [zq_a, zq_b, zq_c, zq_d, zq_e, zq_f, zq_g, zq_h, zq_i, zq_j, zq_k, zq_l, zq_m, zq_n, zq_o, zq_p, zq_q, zq_r, zq_s, zq_t, zq_u, zq_v, zq_w, zq_x, zq_y, zq_z, zq_A, zq_B, zq_C, zq_D, zq_E, zq_F, zq_G, zq_H, zq_I, zq_J, zq_K, zq_L, ↓zq_M, ↓zq_N, ↓zq_O, ↓zq_P, ↓zq_Q, ↓zq_R, zq_S, zq_T, zq_U, zq_V, zq_W, zq_X, zq_Y, zq_Z, zq_0, zq_1, zq_2, zq_3, zq_4, zq_5, ↓zq_6, ↓zq_7, ↓zq_8, ↓zq_9, ↓zq_aa, zq_ab, zq_ac, zq_ad, zq_ae, zq_af, zq_ag, ↓zq_ah, ↓zq_ai, ↓zq_aj, zq_ak, ↓zq_al, ↓zq_am, e_b1, e_b2, x_o1, x_o2, q0, q0_n, q1, ka, kb, c1, c1_n]
          · simp [zq_a, zq_b, zq_c, zq_d, zq_e, zq_f, zq_g, zq_h, zq_i, zq_j, zq_k, zq_l, zq_m, zq_n, zq_o, zq_p, zq_q, zq_r, zq_s, zq_t, zq_u, zq_v, zq_w, zq_x, zq_y, zq_z, zq_A, zq_B, zq_C, zq_D, zq_E, zq_F, zq_G, zq_H, zq_I, zq_J, zq_K, zq_L, ↓zq_M, ↓zq_N, ↓zq_O, ↓zq_P, ↓zq_Q, ↓zq_R, zq_S, zq_T, zq_U, zq_V, zq_W, zq_X, zq_Y, zq_Z, zq_0, zq_1, zq_2, zq_3, zq_4, zq_5, ↓zq_6, ↓zq_7, ↓zq_8, ↓zq_9, ↓zq_aa, zq_ab, zq_ac, zq_ad, zq_ae, zq_af, zq_ag, ↓zq_ah, ↓zq_ai, ↓zq_aj, zq_ak, ↓zq_al, ↓zq_am, e_b1, e_b2, x_o1, x_o2, q0, q0_n, ka, kb, c1, c1_n]
        · obtain ⟨r, k⟩ := H (e_w (n + 1)) x5
          have k1 := r_hump_117 (u := u) ⟨by omega, by omega⟩ k
          refine ⟨r, key _ ?_⟩
          unfold e_t212_59
          rcases x_le x5 500 with ⟨q0, q0_n⟩ | ⟨q0, q0_n⟩
          · have q1 : ¬ (b = a) := fun e => q ⟨q0, e⟩
            simp [zq_a, zq_b, zq_c, zq_d, zq_e, zq_f, zq_g, zq_h, zq_i, zq_j, zq_k, zq_l, zq_m, zq_n, zq_o, zq_p, zq_q, zq_r, zq_s, zq_t, zq_u, zq_v, zq_w, zq_x, zq_y, zq_z, zq_A, zq_B, zq_C, zq_D, zq_E, zq_F, zq_G, zq_H, zq_I, zq_J, zq_K, zq_L, ↓zq_M, ↓zq_N, ↓zq_O, ↓zq_P, ↓zq_Q, ↓zq_R, zq_S, zq_T, zq_U, zq_V, zq_W, zq_X, zq_Y, zq_Z, zq_0, zq_1, zq_2, zq_3, zq_4, zq_5, ↓zq_6, ↓zq_7, ↓zq_8, ↓zq_9, ↓zq_aa, zq_ab, zq_ac, zq_ad, zq_ae, zq_af, zq_ag, ↓zq_ah, ↓zq_ai, ↓zq_aj, zq_ak, ↓zq_al, ↓zq_am, e_b1, e_b2, x_o1, x_o2, q0, q0_n, q1, ka, kb, c1, c1_n, c2, k1]
          · simp [zq_a, zq_b, zq_c, zq_d, zq_e, zq_f, zq_g, zq_h, zq_i, zq_j, zq_k, zq_l, zq_m, zq_n, zq_o, zq_p, zq_q, zq_r, zq_s, zq_t, zq_u, zq_v, zq_w, zq_x, zq_y, zq_z, zq_A, zq_B, zq_C, zq_D, zq_E, zq_F, zq_G, zq_H, zq_I, zq_J, zq_K, zq_L, ↓zq_M, ↓zq_N, ↓zq_O, ↓zq_P, ↓zq_Q, ↓zq_R, zq_S, zq_T, zq_U, zq_V, zq_W, zq_X, zq_Y, zq_Z, zq_0, zq_1, zq_2, zq_3, zq_4, zq_5, ↓zq_6, ↓zq_7, ↓zq_8, ↓zq_9, ↓zq_aa, zq_ab, zq_ac, zq_ad, zq_ae, zq_af, zq_ag, ↓zq_ah, ↓zq_ai, ↓zq_aj, zq_ak, ↓zq_al, ↓zq_am, e_b1, e_b2, x_o1, x_o2, q0, q0_n, ka, kb, c1, c1_n, c2, k1]
theorem r_hump_out {p i : Int} {M : EM} (hM : a_M M) : ∀ (m : Nat) (n u x5 : Int), (500 - u).toNat ≤ m → 1 ≤ u → u ≤ 500 → ∃ r, E_V 212 25 [192, p, i, n, u, x5] M = some (r, M) := by
  have hend : ∀ n u x5, ¬ (u < 500) → ∃ r, E_V 212 25 [192, p, i, n, u, x5] M = some (r, M) := by
    intro n u x5 q
    by_cases c : i = -1
    · refine ⟨n, ?_⟩
      rw [E_V_eq]
      show e_tv E_C (E_V 212) e_t212_25 [192, p, i, n, u, x5] M = _
      unfold e_t212_25
      simp [zq_a, zq_b, zq_c, zq_d, zq_e, zq_f, zq_g, zq_h, zq_i, zq_j, zq_k, zq_l, zq_m, zq_n, zq_o, zq_p, zq_q, zq_r, zq_s, zq_t, zq_u, zq_v, zq_w, zq_x, zq_y, zq_z, zq_A, zq_B, zq_C, zq_D, zq_E, zq_F, zq_G, zq_H, zq_I, zq_J, zq_K, zq_L, ↓zq_M, ↓zq_N, ↓zq_O, ↓zq_P, ↓zq_Q, ↓zq_R, zq_S, zq_T, zq_U, zq_V, zq_W, zq_X, zq_Y, zq_Z, zq_0, zq_1, zq_2, zq_3, zq_4, zq_5, ↓zq_6, ↓zq_7, ↓zq_8, ↓zq_9, ↓zq_aa, zq_ab, zq_ac, zq_ad, zq_ae, zq_af, zq_ag, ↓zq_ah, ↓zq_ai, ↓zq_aj, zq_ak, ↓zq_al, ↓zq_am, e_b1, e_b2, x_o1, x_o2, q, c]
    · refine ⟨-4, ?_⟩
      rw [E_V_eq]
      show e_tv E_C (E_V 212) e_t212_25 [192, p, i, n, u, x5] M = _
      unfold e_t212_25
      simp [zq_a, zq_b, zq_c, zq_d, zq_e, zq_f, zq_g, zq_h, zq_i, zq_j, zq_k, zq_l, zq_m, zq_n, zq_o, zq_p, zq_q, zq_r, zq_s, zq_t, zq_u, zq_v, zq_w, zq_x, zq_y, zq_z, zq_A, zq_B, zq_C, zq_D, zq_E, zq_F, zq_G, zq_H, zq_I, zq_J, zq_K, zq_L, ↓zq_M, ↓zq_N, ↓zq_O, ↓zq_P, ↓zq_Q, ↓zq_R, zq_S, zq_T, zq_U, zq_V, zq_W, zq_X, zq_Y, zq_Z, zq_0, zq_1, zq_2, zq_3, zq_4, zq_5, ↓zq_6, ↓zq_7, ↓zq_8, ↓zq_9, ↓zq_aa, zq_ab, zq_ac, zq_ad, zq_ae, zq_af, zq_ag, ↓zq_ah, ↓zq_ai, ↓zq_aj, zq_ak, ↓zq_al, ↓zq_am, e_b1, e_b2, x_o1, x_o2, q, c]
  intro m
  induction m with
  | zero => intro n u x5 hm h0 h1; exact hend n u x5 (by omega)
  | succ m ih =>
    intro n u x5 hm h0 h1
    rcases x_lt u 500 with ⟨q, q_n⟩ | ⟨q, q_n⟩
    · have w4 : e_w (u + 1) = u + 1 := a_w_id (by omega) (by omega)
      have w5 : e_w (u - 1) = u - 1 := a_w_id (by omega) (by omega)
      obtain ⟨a, ka, ha⟩ := r_power (u := u) hM (by omega)
      obtain ⟨b, kb, hb⟩ := r_power (u := u - 1) hM (by omega)
      have H : ∀ n later, ∃ r, E_V 212 25 [192, p, i, n, u + 1, later] M = some (r, M) := fun n later => ih n (u + 1) later (by omega) (by omega) (by omega)
      rcases x_le a b with ⟨c, c_n⟩ | ⟨c, c_n⟩
      · obtain ⟨r, k⟩ := H n x5
        have k1 := r_hump_117 (u := u) ⟨by omega, by omega⟩ k
        refine ⟨r, ?_⟩
        rw [E_V_eq]
        show e_tv E_C (E_V 212) e_t212_25 [192, p, i, n, u, x5] M = _
        unfold e_t212_25
        simp [zq_a, zq_b, zq_c, zq_d, zq_e, zq_f, zq_g, zq_h, zq_i, zq_j, zq_k, zq_l, zq_m, zq_n, zq_o, zq_p, zq_q, zq_r, zq_s, zq_t, zq_u, zq_v, zq_w, zq_x, zq_y, zq_z, zq_A, zq_B, zq_C, zq_D, zq_E, zq_F, zq_G, zq_H, zq_I, zq_J, zq_K, zq_L, ↓zq_M, ↓zq_N, ↓zq_O, ↓zq_P, ↓zq_Q, ↓zq_R, zq_S, zq_T, zq_U, zq_V, zq_W, zq_X, zq_Y, zq_Z, zq_0, zq_1, zq_2, zq_3, zq_4, zq_5, ↓zq_6, ↓zq_7, ↓zq_8, ↓zq_9, ↓zq_aa, zq_ab, zq_ac, zq_ad, zq_ae, zq_af, zq_ag, ↓zq_ah, ↓zq_ai, ↓zq_aj, zq_ak, ↓zq_al, ↓zq_am, e_b1, e_b2, x_o1, x_o2, q, q_n, w5, ka, kb, c, c_n, k1]
      · obtain ⟨r, k⟩ := r_hump_in (p := p) (i := i) hM ⟨h0, q⟩ H 502 n (u + 1) (by omega) (by omega) (by omega)
        refine ⟨r, ?_⟩
        rw [E_V_eq]
        show e_tv E_C (E_V 212) e_t212_25 [192, p, i, n, u, x5] M = _
        unfold e_t212_25
        simp [zq_a, zq_b, zq_c, zq_d, zq_e, zq_f, zq_g, zq_h, zq_i, zq_j, zq_k, zq_l, zq_m, zq_n, zq_o, zq_p, zq_q, zq_r, zq_s, zq_t, zq_u, zq_v, zq_w, zq_x, zq_y, zq_z, zq_A, zq_B, zq_C, zq_D, zq_E, zq_F, zq_G, zq_H, zq_I, zq_J, zq_K, zq_L, ↓zq_M, ↓zq_N, ↓zq_O, ↓zq_P, ↓zq_Q, ↓zq_R, zq_S, zq_T, zq_U, zq_V, zq_W, zq_X, zq_Y, zq_Z, zq_0, zq_1, zq_2, zq_3, zq_4, zq_5, ↓zq_6, ↓zq_7, ↓zq_8, ↓zq_9, ↓zq_aa, zq_ab, zq_ac, zq_ad, zq_ae, zq_af, zq_ag, ↓zq_ah, ↓zq_ai, ↓zq_aj, zq_ak, ↓zq_al, ↓zq_am, e_b1, e_b2, x_o1, x_o2, q, q_n, w4, w5, ka, kb, c, c_n, k]
    · exact hend n u x5 q
theorem r_hump {p i : Int} {M : EM} (hJ : r_J M) : r_Q 212 [192, p, i] M := by
  have hE := r_J_E hJ
  have hW := hE.2.1
  by_cases q0 : 0 ≤ p ∧ p < r_G M 1198
  · have ip := r_ip1 hW q0
    rcases x_lt i (-1) with ⟨q1, q1_n⟩ | ⟨q1, q1_n⟩
    · refine r_same (r := -1) hJ ?_
      rw [r_ent (show e_rok 212 [192, p, i] = true from decide_eq_true r_ref)]
      show e_tv E_C (E_V 212) e_t212_0 [192, p, i, 0, 0, 0] M = _
      unfold e_t212_0
      simp [zq_a, zq_b, zq_c, zq_d, zq_e, zq_f, zq_g, zq_h, zq_i, zq_j, zq_k, zq_l, zq_m, zq_n, zq_o, zq_p, zq_q, zq_r, zq_s, zq_t, zq_u, zq_v, zq_w, zq_x, zq_y, zq_z, zq_A, zq_B, zq_C, zq_D, zq_E, zq_F, zq_G, zq_H, zq_I, zq_J, zq_K, zq_L, ↓zq_M, ↓zq_N, ↓zq_O, ↓zq_P, ↓zq_Q, ↓zq_R, zq_S, zq_T, zq_U, zq_V, zq_W, zq_X, zq_Y, zq_Z, zq_0, zq_1, zq_2, zq_3, zq_4, zq_5, ↓zq_6, ↓zq_7, ↓zq_8, ↓zq_9, ↓zq_aa, zq_ab, zq_ac, zq_ad, zq_ae, zq_af, zq_ag, ↓zq_ah, ↓zq_ai, ↓zq_aj, zq_ak, ↓zq_al, ↓zq_am, e_b1, e_b2, x_o1, x_o2, ip, q1, q1_n]
    · obtain ⟨M1, k1, e1⟩ := r_gives hE hW.2.1 (r_pt_of hW q0)
      obtain ⟨r, k⟩ := r_hump_out (p := p) (i := i) e1.1 499 0 1 0 (by decide) (by decide) (by decide)
      refine ⟨r, M1, ?_, e1.1, r_evq e1, by rw [r_ev_same e1 (by decide) (by decide)]; exact hJ.2.2.2.2⟩
      rw [r_ent (show e_rok 212 [192, p, i] = true from decide_eq_true r_ref)]
      show e_tv E_C (E_V 212) e_t212_0 [192, p, i, 0, 0, 0] M = _
      unfold e_t212_0
      simp [zq_a, zq_b, zq_c, zq_d, zq_e, zq_f, zq_g, zq_h, zq_i, zq_j, zq_k, zq_l, zq_m, zq_n, zq_o, zq_p, zq_q, zq_r, zq_s, zq_t, zq_u, zq_v, zq_w, zq_x, zq_y, zq_z, zq_A, zq_B, zq_C, zq_D, zq_E, zq_F, zq_G, zq_H, zq_I, zq_J, zq_K, zq_L, ↓zq_M, ↓zq_N, ↓zq_O, ↓zq_P, ↓zq_Q, ↓zq_R, zq_S, zq_T, zq_U, zq_V, zq_W, zq_X, zq_Y, zq_Z, zq_0, zq_1, zq_2, zq_3, zq_4, zq_5, ↓zq_6, ↓zq_7, ↓zq_8, ↓zq_9, ↓zq_aa, zq_ab, zq_ac, zq_ad, zq_ae, zq_af, zq_ag, ↓zq_ah, ↓zq_ai, ↓zq_aj, zq_ak, ↓zq_al, ↓zq_am, e_b1, e_b2, x_o1, x_o2, ip, q1, q1_n, k1, k]
  · have ip := r_ip0 hW q0
    refine r_same (r := -1) hJ ?_
    rw [r_ent (show e_rok 212 [192, p, i] = true from decide_eq_true r_ref)]
    show e_tv E_C (E_V 212) e_t212_0 [192, p, i, 0, 0, 0] M = _
    unfold e_t212_0
    simp [zq_a, zq_b, zq_c, zq_d, zq_e, zq_f, zq_g, zq_h, zq_i, zq_j, zq_k, zq_l, zq_m, zq_n, zq_o, zq_p, zq_q, zq_r, zq_s, zq_t, zq_u, zq_v, zq_w, zq_x, zq_y, zq_z, zq_A, zq_B, zq_C, zq_D, zq_E, zq_F, zq_G, zq_H, zq_I, zq_J, zq_K, zq_L, ↓zq_M, ↓zq_N, ↓zq_O, ↓zq_P, ↓zq_Q, ↓zq_R, zq_S, zq_T, zq_U, zq_V, zq_W, zq_X, zq_Y, zq_Z, zq_0, zq_1, zq_2, zq_3, zq_4, zq_5, ↓zq_6, ↓zq_7, ↓zq_8, ↓zq_9, ↓zq_aa, zq_ab, zq_ac, zq_ad, zq_ae, zq_af, zq_ag, ↓zq_ah, ↓zq_ai, ↓zq_aj, zq_ak, ↓zq_al, ↓zq_am, e_b1, e_b2, x_o1, x_o2, ip]
theorem r_held_b {p c w x4 x5 x6 x9 : Int} {M : EM} (hE : r_E M) (hp : r_rw (r_G M) 40 p) : ∀ (m : Nat) (x7 x8 : Int), (8 - x8).toNat ≤ m → 0 ≤ x8 → ∃ r, E_V 213 154 [192, p, c, w, x4, x5, x6, x7, x8, x9] M = some (r, M) := by
  obtain ⟨a1, a2, a3, a4, a5, a6, a7, a8⟩ := hp
  have w1 : e_w (28 * p) = 28 * p := a_w_id (by omega) (by omega)
  have w2 : e_w (28 * p + 19) = 28 * p + 19 := a_w_id (by omega) (by omega)
  have l1 : e_op 60 [193, 28 * p + 19] M = some (r_G M (28 * p + 19)) := r_rd (by omega) (by omega)
  have hend : ∀ x7 x8, ¬ (x8 < r_G M (28 * p + 19)) → ∃ r, E_V 213 154 [192, p, c, w, x4, x5, x6, x7, x8, x9] M = some (r, M) := by
    intro x7 x8 q
    by_cases c1 : w = 0
    · refine ⟨x4, ?_⟩
      rw [E_V_eq]
      show e_tv E_C (E_V 213) e_t213_154 [192, p, c, w, x4, x5, x6, x7, x8, x9] M = _
      unfold e_t213_154
      simp [zq_a, zq_b, zq_c, zq_d, zq_e, zq_f, zq_g, zq_h, zq_i, zq_j, zq_k, zq_l, zq_m, zq_n, zq_o, zq_p, zq_q, zq_r, zq_s, zq_t, zq_u, zq_v, zq_w, zq_x, zq_y, zq_z, zq_A, zq_B, zq_C, zq_D, zq_E, zq_F, zq_G, zq_H, zq_I, zq_J, zq_K, zq_L, ↓zq_M, ↓zq_N, ↓zq_O, ↓zq_P, ↓zq_Q, ↓zq_R, zq_S, zq_T, zq_U, zq_V, zq_W, zq_X, zq_Y, zq_Z, zq_0, zq_1, zq_2, zq_3, zq_4, zq_5, ↓zq_6, ↓zq_7, ↓zq_8, ↓zq_9, ↓zq_aa, zq_ab, zq_ac, zq_ad, zq_ae, zq_af, zq_ag, ↓zq_ah, ↓zq_ai, ↓zq_aj, zq_ak, ↓zq_al, ↓zq_am, e_b1, e_b2, x_o1, x_o2, r_O0, w1, w2, l1, q, c1]
    · by_cases c2 : w = 1
      · refine ⟨x7, ?_⟩
        rw [E_V_eq]
        show e_tv E_C (E_V 213) e_t213_154 [192, p, c, w, x4, x5, x6, x7, x8, x9] M = _
        unfold e_t213_154
        simp [zq_a, zq_b, zq_c, zq_d, zq_e, zq_f, zq_g, zq_h, zq_i, zq_j, zq_k, zq_l, zq_m, zq_n, zq_o, zq_p, zq_q, zq_r, zq_s, zq_t, zq_u, zq_v, zq_w, zq_x, zq_y, zq_z, zq_A, zq_B, zq_C, zq_D, zq_E, zq_F, zq_G, zq_H, zq_I, zq_J, zq_K, zq_L, ↓zq_M, ↓zq_N, ↓zq_O, ↓zq_P, ↓zq_Q, ↓zq_R, zq_S, zq_T, zq_U, zq_V, zq_W, zq_X, zq_Y, zq_Z, zq_0, zq_1, zq_2, zq_3, zq_4, zq_5, ↓zq_6, ↓zq_7, ↓zq_8, ↓zq_9, ↓zq_aa, zq_ab, zq_ac, zq_ad, zq_ae, zq_af, zq_ag, ↓zq_ah, ↓zq_ai, ↓zq_aj, zq_ak, ↓zq_al, ↓zq_am, e_b1, e_b2, x_o1, x_o2, r_O0, w1, w2, l1, q, c2]
      · refine ⟨x6, ?_⟩
        rw [E_V_eq]
        show e_tv E_C (E_V 213) e_t213_154 [192, p, c, w, x4, x5, x6, x7, x8, x9] M = _
        unfold e_t213_154
        simp [zq_a, zq_b, zq_c, zq_d, zq_e, zq_f, zq_g, zq_h, zq_i, zq_j, zq_k, zq_l, zq_m, zq_n, zq_o, zq_p, zq_q, zq_r, zq_s, zq_t, zq_u, zq_v, zq_w, zq_x, zq_y, zq_z, zq_A, zq_B, zq_C, zq_D, zq_E, zq_F, zq_G, zq_H, zq_I, zq_J, zq_K, zq_L, ↓zq_M, ↓zq_N, ↓zq_O, ↓zq_P, ↓zq_Q, ↓zq_R, zq_S, zq_T, zq_U, zq_V, zq_W, zq_X, zq_Y, zq_Z, zq_0, zq_1, zq_2, zq_3, zq_4, zq_5, ↓zq_6, ↓zq_7, ↓zq_8, ↓zq_9, ↓zq_aa, zq_ab, zq_ac, zq_ad, zq_ae, zq_af, zq_ag, ↓zq_ah, ↓zq_ai, ↓zq_aj, zq_ak, ↓zq_al, ↓zq_am, e_b1, e_b2, x_o1, x_o2, r_O0, w1, w2, l1, q, c1, c2]
  intro m
  induction m with
  | zero => intro x7 x8 h5 h0; exact hend x7 x8 (by omega)
  | succ m ih =>
    intro x7 x8 h5 h0
    rcases x_lt x8 (r_G M (28 * p + 19)) with ⟨q, q_n⟩ | ⟨q, q_n⟩
    · have w4 : e_w (x8 + 1) = x8 + 1 := a_w_id (by omega) (by omega)
      obtain ⟨u, ku, hu⟩ := r_groupPush (g := x8) (c := c) hE ⟨a1, a2⟩ a5 a8
      obtain ⟨d, kd, hd⟩ := r_hasDiode (p := p) (g := x8) (M := M) ⟨a1, a2⟩ ⟨h0, by omega⟩
      obtain ⟨r1, k1⟩ := ih (e_w (x7 + 1)) (x8 + 1) (by omega) (by omega)
      obtain ⟨r0, k0⟩ := ih (e_w (x7 + 0)) (x8 + 1) (by omega) (by omega)
      rw [Int.add_zero] at k0
      by_cases c1 : d = 0
      · refine ⟨r0, ?_⟩
        rw [E_V_eq]
        show e_tv E_C (E_V 213) e_t213_154 [192, p, c, w, x4, x5, x6, x7, x8, x9] M = _
        unfold e_t213_154
        simp [zq_a, zq_b, zq_c, zq_d, zq_e, zq_f, zq_g, zq_h, zq_i, zq_j, zq_k, zq_l, zq_m, zq_n, zq_o, zq_p, zq_q, zq_r, zq_s, zq_t, zq_u, zq_v, zq_w, zq_x, zq_y, zq_z, zq_A, zq_B, zq_C, zq_D, zq_E, zq_F, zq_G, zq_H, zq_I, zq_J, zq_K, zq_L, ↓zq_M, ↓zq_N, ↓zq_O, ↓zq_P, ↓zq_Q, ↓zq_R, zq_S, zq_T, zq_U, zq_V, zq_W, zq_X, zq_Y, zq_Z, zq_0, zq_1, zq_2, zq_3, zq_4, zq_5, ↓zq_6, ↓zq_7, ↓zq_8, ↓zq_9, ↓zq_aa, zq_ab, zq_ac, zq_ad, zq_ae, zq_af, zq_ag, ↓zq_ah, ↓zq_ai, ↓zq_aj, zq_ak, ↓zq_al, ↓zq_am, e_b1, e_b2, x_o1, x_o2, r_O0, q, q_n, w1, w2, w4, l1, kd, c1, k0]
      · rcases x_lt u (-1) with ⟨c2, c2_n⟩ | ⟨c2, c2_n⟩
        · refine ⟨r1, ?_⟩
          rw [E_V_eq]
          show e_tv E_C (E_V 213) e_t213_154 [192, p, c, w, x4, x5, x6, x7, x8, x9] M = _
          unfold e_t213_154
          simp [zq_a, zq_b, zq_c, zq_d, zq_e, zq_f, zq_g, zq_h, zq_i, zq_j, zq_k, zq_l, zq_m, zq_n, zq_o, zq_p, zq_q, zq_r, zq_s, zq_t, zq_u, zq_v, zq_w, zq_x, zq_y, zq_z, zq_A, zq_B, zq_C, zq_D, zq_E, zq_F, zq_G, zq_H, zq_I, zq_J, zq_K, zq_L, ↓zq_M, ↓zq_N, ↓zq_O, ↓zq_P, ↓zq_Q, ↓zq_R, zq_S, zq_T, zq_U, zq_V, zq_W, zq_X, zq_Y, zq_Z, zq_0, zq_1, zq_2, zq_3, zq_4, zq_5, ↓zq_6, ↓zq_7, ↓zq_8, ↓zq_9, ↓zq_aa, zq_ab, zq_ac, zq_ad, zq_ae, zq_af, zq_ag, ↓zq_ah, ↓zq_ai, ↓zq_aj, zq_ak, ↓zq_al, ↓zq_am, e_b1, e_b2, x_o1, x_o2, r_O0, q, q_n, w1, w2, w4, l1, ku, kd, c1, c2, c2_n, k1]
        · refine ⟨r0, ?_⟩
          rw [E_V_eq]
          show e_tv E_C (E_V 213) e_t213_154 [192, p, c, w, x4, x5, x6, x7, x8, x9] M = _
          unfold e_t213_154
          simp [zq_a, zq_b, zq_c, zq_d, zq_e, zq_f, zq_g, zq_h, zq_i, zq_j, zq_k, zq_l, zq_m, zq_n, zq_o, zq_p, zq_q, zq_r, zq_s, zq_t, zq_u, zq_v, zq_w, zq_x, zq_y, zq_z, zq_A, zq_B, zq_C, zq_D, zq_E, zq_F, zq_G, zq_H, zq_I, zq_J, zq_K, zq_L, ↓zq_M, ↓zq_N, ↓zq_O, ↓zq_P, ↓zq_Q, ↓zq_R, zq_S, zq_T, zq_U, zq_V, zq_W, zq_X, zq_Y, zq_Z, zq_0, zq_1, zq_2, zq_3, zq_4, zq_5, ↓zq_6, ↓zq_7, ↓zq_8, ↓zq_9, ↓zq_aa, zq_ab, zq_ac, zq_ad, zq_ae, zq_af, zq_ag, ↓zq_ah, ↓zq_ai, ↓zq_aj, zq_ak, ↓zq_al, ↓zq_am, e_b1, e_b2, x_o1, x_o2, r_O0, q, q_n, w1, w2, w4, l1, ku, kd, c1, c2, c2_n, k0]
    · exact hend x7 x8 q
theorem r_held_a {p c w : Int} {M : EM} (hE : r_E M) (hp : r_rw (r_G M) 40 p) : ∀ (m : Nat) (x4 x5 x6 x7 x8 x9 : Int), (8 - x7).toNat ≤ m → 0 ≤ x7 → ∃ r, E_V 213 58 [192, p, c, w, x4, x5, x6, x7, x8, x9] M = some (r, M) := by
  have hp' := hp
  obtain ⟨a1, a2, a3, a4, a5, a6, a7, a8⟩ := hp'
  have km : E_C 171 [192, p] M = some (r_G M (28 * p + 2), M) := r_many ⟨a1, a2⟩
  have hend : ∀ x4 x5 x6 x7 x8 x9, ¬ (x7 < r_G M (28 * p + 2)) → ∃ r, E_V 213 58 [192, p, c, w, x4, x5, x6, x7, x8, x9] M = some (r, M) := by
    intro x4 x5 x6 x7 x8 x9 q
    obtain ⟨r, k⟩ := r_held_b (c := c) (w := w) (x4 := x4) (x5 := x5) (x6 := x6) (x9 := x9) hE hp 8 0 0 (by decide) (by decide)
    refine ⟨r, ?_⟩
    rw [E_V_eq]
    show e_tv E_C (E_V 213) e_t213_58 [192, p, c, w, x4, x5, x6, x7, x8, x9] M = _
    unfold e_t213_58
    simp [zq_a, zq_b, zq_c, zq_d, zq_e, zq_f, zq_g, zq_h, zq_i, zq_j, zq_k, zq_l, zq_m, zq_n, zq_o, zq_p, zq_q, zq_r, zq_s, zq_t, zq_u, zq_v, zq_w, zq_x, zq_y, zq_z, zq_A, zq_B, zq_C, zq_D, zq_E, zq_F, zq_G, zq_H, zq_I, zq_J, zq_K, zq_L, ↓zq_M, ↓zq_N, ↓zq_O, ↓zq_P, ↓zq_Q, ↓zq_R, zq_S, zq_T, zq_U, zq_V, zq_W, zq_X, zq_Y, zq_Z, zq_0, zq_1, zq_2, zq_3, zq_4, zq_5, ↓zq_6, ↓zq_7, ↓zq_8, ↓zq_9, ↓zq_aa, zq_ab, zq_ac, zq_ad, zq_ae, zq_af, zq_ag, ↓zq_ah, ↓zq_ai, ↓zq_aj, zq_ak, ↓zq_al, ↓zq_am, e_b1, e_b2, x_o1, x_o2, q, km, k]
  intro m
  induction m with
  | zero => intro x4 x5 x6 x7 x8 x9 h5 h0; exact hend x4 x5 x6 x7 x8 x9 (by omega)
  | succ m ih =>
    intro x4 x5 x6 x7 x8 x9 h5 h0
    rcases x_lt x7 (r_G M (28 * p + 2)) with ⟨q, q_n⟩ | ⟨q, q_n⟩
    · have w4 : e_w (x7 + 1) = x7 + 1 := a_w_id (by omega) (by omega)
      have ko : E_C 172 [192, p, x7] M = some (r_G M (28 * p + 3 + x7), M) := r_of ⟨a1, a2⟩ ⟨h0, by omega⟩
      obtain ⟨m1, m2, m3, m4, m5, m6⟩ := a8 x7 h0 q
      have hy : 0 ≤ r_G M (28 * p + 3 + x7) ∧ r_G M (28 * p + 3 + x7) < 40 := ⟨m1, by omega⟩
      obtain ⟨s, ks, hs⟩ := r_share hE hy m6
      obtain ⟨v, kv, hv⟩ := r_cellPush (c := c) (sh := s) (M := M) hy ⟨m4, m5⟩
      obtain ⟨a, ka, ha⟩ := r_currentAt (p := r_G M (28 * p + 3 + x7)) (i := 0) (sh := s) (M := M) hy ⟨by decide, by decide⟩
      generalize r_G M (28 * p + 3 + x7) = y at ko ks kv ka
      have hgo : ∀ y4 y5 y6, ∃ r, E_V 213 142 [192, p, c, w, y4, y5, y6, x7, y, v] M = some (r, M) := by
        intro y4 y5 y6
        obtain ⟨r, k⟩ := ih y4 y5 y6 (x7 + 1) y v (by omega) (by omega)
        refine ⟨r, ?_⟩
        rw [E_V_eq]
        show e_tv E_C (E_V 213) e_t213_142 [192, p, c, w, y4, y5, y6, x7, y, v] M = _
        unfold e_t213_142
        simp [zq_a, zq_b, zq_c, zq_d, zq_e, zq_f, zq_g, zq_h, zq_i, zq_j, zq_k, zq_l, zq_m, zq_n, zq_o, zq_p, zq_q, zq_r, zq_s, zq_t, zq_u, zq_v, zq_w, zq_x, zq_y, zq_z, zq_A, zq_B, zq_C, zq_D, zq_E, zq_F, zq_G, zq_H, zq_I, zq_J, zq_K, zq_L, ↓zq_M, ↓zq_N, ↓zq_O, ↓zq_P, ↓zq_Q, ↓zq_R, zq_S, zq_T, zq_U, zq_V, zq_W, zq_X, zq_Y, zq_Z, zq_0, zq_1, zq_2, zq_3, zq_4, zq_5, ↓zq_6, ↓zq_7, ↓zq_8, ↓zq_9, ↓zq_aa, zq_ab, zq_ac, zq_ad, zq_ae, zq_af, zq_ag, ↓zq_ah, ↓zq_ai, ↓zq_aj, zq_ak, ↓zq_al, ↓zq_am, e_b1, e_b2, x_o1, x_o2, w4, k]
      have h1 : ∃ y6, ∀ t, e_tv E_C (E_V 213) e_t213_58 [192, p, c, w, x4, x5, x6, x7, x8, x9] M = t ↔ (if 0 ≤ x4 ∧ x5 ≤ v then E_V 213 142 [192, p, c, w, x4, x5, y6, x7, y, v] M else E_V 213 142 [192, p, c, w, y, v, y6, x7, y, v] M) = t := by
        unfold e_t213_58
        rcases x_lt a c with ⟨c1, c1_n⟩ | ⟨c1, c1_n⟩
        · refine ⟨e_w (x6 + 1), fun t => ?_⟩
          rcases x_le 0 x4 with ⟨c2, c2_n⟩ | ⟨c2, c2_n⟩
          · rcases x_le x5 v with ⟨c3, c3_n⟩ | ⟨c3, c3_n⟩
            · simp [zq_a, zq_b, zq_c, zq_d, zq_e, zq_f, zq_g, zq_h, zq_i, zq_j, zq_k, zq_l, zq_m, zq_n, zq_o, zq_p, zq_q, zq_r, zq_s, zq_t, zq_u, zq_v, zq_w, zq_x, zq_y, zq_z, zq_A, zq_B, zq_C, zq_D, zq_E, zq_F, zq_G, zq_H, zq_I, zq_J, zq_K, zq_L, ↓zq_M, ↓zq_N, ↓zq_O, ↓zq_P, ↓zq_Q, ↓zq_R, zq_S, zq_T, zq_U, zq_V, zq_W, zq_X, zq_Y, zq_Z, zq_0, zq_1, zq_2, zq_3, zq_4, zq_5, ↓zq_6, ↓zq_7, ↓zq_8, ↓zq_9, ↓zq_aa, zq_ab, zq_ac, zq_ad, zq_ae, zq_af, zq_ag, ↓zq_ah, ↓zq_ai, ↓zq_aj, zq_ak, ↓zq_al, ↓zq_am, e_b1, e_b2, x_o1, x_o2, q, q_n, km, ko, ks, kv, ka, c1, c1_n, c2, c2_n, c3, c3_n]
            · simp [zq_a, zq_b, zq_c, zq_d, zq_e, zq_f, zq_g, zq_h, zq_i, zq_j, zq_k, zq_l, zq_m, zq_n, zq_o, zq_p, zq_q, zq_r, zq_s, zq_t, zq_u, zq_v, zq_w, zq_x, zq_y, zq_z, zq_A, zq_B, zq_C, zq_D, zq_E, zq_F, zq_G, zq_H, zq_I, zq_J, zq_K, zq_L, ↓zq_M, ↓zq_N, ↓zq_O, ↓zq_P, ↓zq_Q, ↓zq_R, zq_S, zq_T, zq_U, zq_V, zq_W, zq_X, zq_Y, zq_Z, zq_0, zq_1, zq_2, zq_3, zq_4, zq_5, ↓zq_6, ↓zq_7, ↓zq_8, ↓zq_9, ↓zq_aa, zq_ab, zq_ac, zq_ad, zq_ae, zq_af, zq_ag, ↓zq_ah, ↓zq_ai, ↓zq_aj, zq_ak, ↓zq_al, ↓zq_am, e_b1, e_b2, x_o1, x_o2, q, q_n, km, ko, ks, kv, ka, c1, c1_n, c2, c2_n, c3, c3_n]
          · simp [zq_a, zq_b, zq_c, zq_d, zq_e, zq_f, zq_g, zq_h, zq_i, zq_j, zq_k, zq_l, zq_m, zq_n, zq_o, zq_p, zq_q, zq_r, zq_s, zq_t, zq_u, zq_v, zq_w, zq_x, zq_y, zq_z, zq_A, zq_B, zq_C, zq_D, zq_E, zq_F, zq_G, zq_H, zq_I, zq_J, zq_K, zq_L, ↓zq_M, ↓zq_N, ↓zq_O, ↓zq_P, ↓zq_Q, ↓zq_R, zq_S, zq_T, zq_U, zq_V, zq_W, zq_X, zq_Y, zq_Z, zq_0, zq_1, zq_2, zq_3, zq_4, zq_5, ↓zq_6, ↓zq_7, ↓zq_8, ↓zq_9, ↓zq_aa, zq_ab, zq_ac, zq_ad, zq_ae, zq_af, zq_ag, ↓zq_ah, ↓zq_ai, ↓zq_aj, zq_ak, ↓zq_al, ↓zq_am, e_b1, e_b2, x_o1, x_o2, q, q_n, km, ko, ks, kv, ka, c1, c1_n, c2, c2_n]
        · refine ⟨e_w x6, fun t => ?_⟩
          rcases x_le 0 x4 with ⟨c2, c2_n⟩ | ⟨c2, c2_n⟩
          · rcases x_le x5 v with ⟨c3, c3_n⟩ | ⟨c3, c3_n⟩
            · simp [zq_a, zq_b, zq_c, zq_d, zq_e, zq_f, zq_g, zq_h, zq_i, zq_j, zq_k, zq_l, zq_m, zq_n, zq_o, zq_p, zq_q, zq_r, zq_s, zq_t, zq_u, zq_v, zq_w, zq_x, zq_y, zq_z, zq_A, zq_B, zq_C, zq_D, zq_E, zq_F, zq_G, zq_H, zq_I, zq_J, zq_K, zq_L, ↓zq_M, ↓zq_N, ↓zq_O, ↓zq_P, ↓zq_Q, ↓zq_R, zq_S, zq_T, zq_U, zq_V, zq_W, zq_X, zq_Y, zq_Z, zq_0, zq_1, zq_2, zq_3, zq_4, zq_5, ↓zq_6, ↓zq_7, ↓zq_8, ↓zq_9, ↓zq_aa, zq_ab, zq_ac, zq_ad, zq_ae, zq_af, zq_ag, ↓zq_ah, ↓zq_ai, ↓zq_aj, zq_ak, ↓zq_al, ↓zq_am, e_b1, e_b2, x_o1, x_o2, q, q_n, km, ko, ks, kv, ka, c1, c1_n, c2, c2_n, c3, c3_n]
            · simp [zq_a, zq_b, zq_c, zq_d, zq_e, zq_f, zq_g, zq_h, zq_i, zq_j, zq_k, zq_l, zq_m, zq_n, zq_o, zq_p, zq_q, zq_r, zq_s, zq_t, zq_u, zq_v, zq_w, zq_x, zq_y, zq_z, zq_A, zq_B, zq_C, zq_D, zq_E, zq_F, zq_G, zq_H, zq_I, zq_J, zq_K, zq_L, ↓zq_M, ↓zq_N, ↓zq_O, ↓zq_P, ↓zq_Q, ↓zq_R, zq_S, zq_T, zq_U, zq_V, zq_W, zq_X, zq_Y, zq_Z, zq_0, zq_1, zq_2, zq_3, zq_4, zq_5, ↓zq_6, ↓zq_7, ↓zq_8, ↓zq_9, ↓zq_aa, zq_ab, zq_ac, zq_ad, zq_ae, zq_af, zq_ag, ↓zq_ah, ↓zq_ai, ↓zq_aj, zq_ak, ↓zq_al, ↓zq_am, e_b1, e_b2, x_o1, x_o2, q, q_n, km, ko, ks, kv, ka, c1, c1_n, c2, c2_n, c3, c3_n]
          · simp [zq_a, zq_b, zq_c, zq_d, zq_e, zq_f, zq_g, zq_h, zq_i, zq_j, zq_k, zq_l, zq_m, zq_n, zq_o, zq_p, zq_q, zq_r, zq_s, zq_t, zq_u, zq_v, zq_w, zq_x, zq_y, zq_z, zq_A, zq_B, zq_C, zq_D, zq_E, zq_F, zq_G, zq_H, zq_I, zq_J, zq_K, zq_L, ↓zq_M, ↓zq_N, ↓zq_O, ↓zq_P, ↓zq_Q, ↓zq_R, zq_S, zq_T, zq_U, zq_V, zq_W, zq_X, zq_Y, zq_Z, zq_0, zq_1, zq_2, zq_3, zq_4, zq_5, ↓zq_6, ↓zq_7, ↓zq_8, ↓zq_9, ↓zq_aa, zq_ab, zq_ac, zq_ad, zq_ae, zq_af, zq_ag, ↓zq_ah, ↓zq_ai, ↓zq_aj, zq_ak, ↓zq_al, ↓zq_am, e_b1, e_b2, x_o1, x_o2, q, q_n, km, ko, ks, kv, ka, c1, c1_n, c2, c2_n]
      obtain ⟨y6, h1⟩ := h1
      by_cases c2 : 0 ≤ x4 ∧ x5 ≤ v
      · obtain ⟨r, k⟩ := hgo x4 x5 y6
        refine ⟨r, (E_V_eq 213 58 _ M).trans ((h1 _).mpr ?_)⟩
        rw [if_pos c2]; exact k
      · obtain ⟨r, k⟩ := hgo y v y6
        refine ⟨r, (E_V_eq 213 58 _ M).trans ((h1 _).mpr ?_)⟩
        rw [if_neg c2]; exact k
    · exact hend x4 x5 x6 x7 x8 x9 q
theorem r_held {p c w : Int} {M : EM} (hJ : r_J M) : r_Q 213 [192, p, c, w] M := by
  have hE := r_J_E hJ
  have hW := hE.2.1
  by_cases q0 : 0 ≤ p ∧ p < r_G M 1198
  · have ip := r_ip1 hW q0
    have h40 := r_40 hW q0
    have kk : E_C 170 [192, p] M = some (r_G M (28 * p), M) := r_kind h40
    by_cases q1 : 0 ≤ c ∧ c ≤ 99
    · have i1 := r_in1 (M := M) q1
      by_cases q2 : 0 ≤ w ∧ w ≤ 2
      · have i2 := r_in1 (M := M) q2
        by_cases q3 : r_G M (28 * p) = 1
        · obtain ⟨a1, a2, a3⟩ := r_pt_row (r_pt_of hW q0) q3
          obtain ⟨r, k⟩ := r_held_a (c := c) (w := w) hE ⟨a1, h40.2, a3⟩ 8 (-1) 0 0 0 0 0 (by decide) (by decide)
          refine r_same (r := r) hJ ?_
          rw [r_ent (show e_rok 213 [192, p, c, w] = true from decide_eq_true r_ref)]
          show e_tv E_C (E_V 213) e_t213_0 [192, p, c, w, 0, 0, 0, 0, 0, 0] M = _
          unfold e_t213_0
          simp [zq_a, zq_b, zq_c, zq_d, zq_e, zq_f, zq_g, zq_h, zq_i, zq_j, zq_k, zq_l, zq_m, zq_n, zq_o, zq_p, zq_q, zq_r, zq_s, zq_t, zq_u, zq_v, zq_w, zq_x, zq_y, zq_z, zq_A, zq_B, zq_C, zq_D, zq_E, zq_F, zq_G, zq_H, zq_I, zq_J, zq_K, zq_L, ↓zq_M, ↓zq_N, ↓zq_O, ↓zq_P, ↓zq_Q, ↓zq_R, zq_S, zq_T, zq_U, zq_V, zq_W, zq_X, zq_Y, zq_Z, zq_0, zq_1, zq_2, zq_3, zq_4, zq_5, ↓zq_6, ↓zq_7, ↓zq_8, ↓zq_9, ↓zq_aa, zq_ab, zq_ac, zq_ad, zq_ae, zq_af, zq_ag, ↓zq_ah, ↓zq_ai, ↓zq_aj, zq_ak, ↓zq_al, ↓zq_am, e_b1, e_b2, x_o1, x_o2, ip, i1, i2, kk, q3, k]
        · refine r_same (r := -3) hJ ?_
          rw [r_ent (show e_rok 213 [192, p, c, w] = true from decide_eq_true r_ref)]
          show e_tv E_C (E_V 213) e_t213_0 [192, p, c, w, 0, 0, 0, 0, 0, 0] M = _
          unfold e_t213_0
          simp [zq_a, zq_b, zq_c, zq_d, zq_e, zq_f, zq_g, zq_h, zq_i, zq_j, zq_k, zq_l, zq_m, zq_n, zq_o, zq_p, zq_q, zq_r, zq_s, zq_t, zq_u, zq_v, zq_w, zq_x, zq_y, zq_z, zq_A, zq_B, zq_C, zq_D, zq_E, zq_F, zq_G, zq_H, zq_I, zq_J, zq_K, zq_L, ↓zq_M, ↓zq_N, ↓zq_O, ↓zq_P, ↓zq_Q, ↓zq_R, zq_S, zq_T, zq_U, zq_V, zq_W, zq_X, zq_Y, zq_Z, zq_0, zq_1, zq_2, zq_3, zq_4, zq_5, ↓zq_6, ↓zq_7, ↓zq_8, ↓zq_9, ↓zq_aa, zq_ab, zq_ac, zq_ad, zq_ae, zq_af, zq_ag, ↓zq_ah, ↓zq_ai, ↓zq_aj, zq_ak, ↓zq_al, ↓zq_am, e_b1, e_b2, x_o1, x_o2, ip, i1, i2, kk, q3]
      · have i2 := r_in0 (M := M) q2
        refine r_same (r := -1) hJ ?_
        rw [r_ent (show e_rok 213 [192, p, c, w] = true from decide_eq_true r_ref)]
        show e_tv E_C (E_V 213) e_t213_0 [192, p, c, w, 0, 0, 0, 0, 0, 0] M = _
        unfold e_t213_0
        simp [zq_a, zq_b, zq_c, zq_d, zq_e, zq_f, zq_g, zq_h, zq_i, zq_j, zq_k, zq_l, zq_m, zq_n, zq_o, zq_p, zq_q, zq_r, zq_s, zq_t, zq_u, zq_v, zq_w, zq_x, zq_y, zq_z, zq_A, zq_B, zq_C, zq_D, zq_E, zq_F, zq_G, zq_H, zq_I, zq_J, zq_K, zq_L, ↓zq_M, ↓zq_N, ↓zq_O, ↓zq_P, ↓zq_Q, ↓zq_R, zq_S, zq_T, zq_U, zq_V, zq_W, zq_X, zq_Y, zq_Z, zq_0, zq_1, zq_2, zq_3, zq_4, zq_5, ↓zq_6, ↓zq_7, ↓zq_8, ↓zq_9, ↓zq_aa, zq_ab, zq_ac, zq_ad, zq_ae, zq_af, zq_ag, ↓zq_ah, ↓zq_ai, ↓zq_aj, zq_ak, ↓zq_al, ↓zq_am, e_b1, e_b2, x_o1, x_o2, ip, i1, i2]
    · have i1 := r_in0 (M := M) q1
      refine r_same (r := -1) hJ ?_
      rw [r_ent (show e_rok 213 [192, p, c, w] = true from decide_eq_true r_ref)]
      show e_tv E_C (E_V 213) e_t213_0 [192, p, c, w, 0, 0, 0, 0, 0, 0] M = _
      unfold e_t213_0
      simp [zq_a, zq_b, zq_c, zq_d, zq_e, zq_f, zq_g, zq_h, zq_i, zq_j, zq_k, zq_l, zq_m, zq_n, zq_o, zq_p, zq_q, zq_r, zq_s, zq_t, zq_u, zq_v, zq_w, zq_x, zq_y, zq_z, zq_A, zq_B, zq_C, zq_D, zq_E, zq_F, zq_G, zq_H, zq_I, zq_J, zq_K, zq_L, ↓zq_M, ↓zq_N, ↓zq_O, ↓zq_P, ↓zq_Q, ↓zq_R, zq_S, zq_T, zq_U, zq_V, zq_W, zq_X, zq_Y, zq_Z, zq_0, zq_1, zq_2, zq_3, zq_4, zq_5, ↓zq_6, ↓zq_7, ↓zq_8, ↓zq_9, ↓zq_aa, zq_ab, zq_ac, zq_ad, zq_ae, zq_af, zq_ag, ↓zq_ah, ↓zq_ai, ↓zq_aj, zq_ak, ↓zq_al, ↓zq_am, e_b1, e_b2, x_o1, x_o2, ip, i1]
  · have ip := r_ip0 hW q0
    refine r_same (r := -1) hJ ?_
    rw [r_ent (show e_rok 213 [192, p, c, w] = true from decide_eq_true r_ref)]
    show e_tv E_C (E_V 213) e_t213_0 [192, p, c, w, 0, 0, 0, 0, 0, 0] M = _
    unfold e_t213_0
    simp [zq_a, zq_b, zq_c, zq_d, zq_e, zq_f, zq_g, zq_h, zq_i, zq_j, zq_k, zq_l, zq_m, zq_n, zq_o, zq_p, zq_q, zq_r, zq_s, zq_t, zq_u, zq_v, zq_w, zq_x, zq_y, zq_z, zq_A, zq_B, zq_C, zq_D, zq_E, zq_F, zq_G, zq_H, zq_I, zq_J, zq_K, zq_L, ↓zq_M, ↓zq_N, ↓zq_O, ↓zq_P, ↓zq_Q, ↓zq_R, zq_S, zq_T, zq_U, zq_V, zq_W, zq_X, zq_Y, zq_Z, zq_0, zq_1, zq_2, zq_3, zq_4, zq_5, ↓zq_6, ↓zq_7, ↓zq_8, ↓zq_9, ↓zq_aa, zq_ab, zq_ac, zq_ad, zq_ae, zq_af, zq_ag, ↓zq_ah, ↓zq_ai, ↓zq_aj, zq_ak, ↓zq_al, ↓zq_am, e_b1, e_b2, x_o1, x_o2, ip]
theorem r_lit {p h : Int} {M : EM} (hJ : r_J M) : r_Q 224 [192, p, h] M := by
  have hE := r_J_E hJ
  have hW := hE.2.1
  by_cases q0 : 0 ≤ p ∧ p < r_G M 1198
  · have ip := r_ip1 hW q0
    have h40 := r_40 hW q0
    have kk : E_C 170 [192, p] M = some (r_G M (28 * p), M) := r_kind h40
    by_cases q1 : 0 ≤ h ∧ h ≤ 11
    · have i1 := r_in1 (M := M) q1
      by_cases q3 : r_G M (28 * p) = 0
      · have hc := r_pt_cell (r_pt_of hW q0) q3
        obtain ⟨r, k, -⟩ := r_litOf (h := h) hE.1 q1 h40 hc.2.2.2.2.2
        refine r_same (r := r) hJ ?_
        rw [r_ent (show e_rok 224 [192, p, h] = true from decide_eq_true r_ref)]
        show e_tv E_C (E_V 224) e_t224_0 [192, p, h] M = _
        unfold e_t224_0
        simp [zq_a, zq_b, zq_c, zq_d, zq_e, zq_f, zq_g, zq_h, zq_i, zq_j, zq_k, zq_l, zq_m, zq_n, zq_o, zq_p, zq_q, zq_r, zq_s, zq_t, zq_u, zq_v, zq_w, zq_x, zq_y, zq_z, zq_A, zq_B, zq_C, zq_D, zq_E, zq_F, zq_G, zq_H, zq_I, zq_J, zq_K, zq_L, ↓zq_M, ↓zq_N, ↓zq_O, ↓zq_P, ↓zq_Q, ↓zq_R, zq_S, zq_T, zq_U, zq_V, zq_W, zq_X, zq_Y, zq_Z, zq_0, zq_1, zq_2, zq_3, zq_4, zq_5, ↓zq_6, ↓zq_7, ↓zq_8, ↓zq_9, ↓zq_aa, zq_ab, zq_ac, zq_ad, zq_ae, zq_af, zq_ag, ↓zq_ah, ↓zq_ai, ↓zq_aj, zq_ak, ↓zq_al, ↓zq_am, e_b1, e_b2, x_o1, x_o2, ip, i1, kk, q3, k]
      · refine r_same (r := -3) hJ ?_
        rw [r_ent (show e_rok 224 [192, p, h] = true from decide_eq_true r_ref)]
        show e_tv E_C (E_V 224) e_t224_0 [192, p, h] M = _
        unfold e_t224_0
        simp [zq_a, zq_b, zq_c, zq_d, zq_e, zq_f, zq_g, zq_h, zq_i, zq_j, zq_k, zq_l, zq_m, zq_n, zq_o, zq_p, zq_q, zq_r, zq_s, zq_t, zq_u, zq_v, zq_w, zq_x, zq_y, zq_z, zq_A, zq_B, zq_C, zq_D, zq_E, zq_F, zq_G, zq_H, zq_I, zq_J, zq_K, zq_L, ↓zq_M, ↓zq_N, ↓zq_O, ↓zq_P, ↓zq_Q, ↓zq_R, zq_S, zq_T, zq_U, zq_V, zq_W, zq_X, zq_Y, zq_Z, zq_0, zq_1, zq_2, zq_3, zq_4, zq_5, ↓zq_6, ↓zq_7, ↓zq_8, ↓zq_9, ↓zq_aa, zq_ab, zq_ac, zq_ad, zq_ae, zq_af, zq_ag, ↓zq_ah, ↓zq_ai, ↓zq_aj, zq_ak, ↓zq_al, ↓zq_am, e_b1, e_b2, x_o1, x_o2, ip, i1, kk, q3]
    · have i1 := r_in0 (M := M) q1
      refine r_same (r := -1) hJ ?_
      rw [r_ent (show e_rok 224 [192, p, h] = true from decide_eq_true r_ref)]
      show e_tv E_C (E_V 224) e_t224_0 [192, p, h] M = _
      unfold e_t224_0
      simp [zq_a, zq_b, zq_c, zq_d, zq_e, zq_f, zq_g, zq_h, zq_i, zq_j, zq_k, zq_l, zq_m, zq_n, zq_o, zq_p, zq_q, zq_r, zq_s, zq_t, zq_u, zq_v, zq_w, zq_x, zq_y, zq_z, zq_A, zq_B, zq_C, zq_D, zq_E, zq_F, zq_G, zq_H, zq_I, zq_J, zq_K, zq_L, ↓zq_M, ↓zq_N, ↓zq_O, ↓zq_P, ↓zq_Q, ↓zq_R, zq_S, zq_T, zq_U, zq_V, zq_W, zq_X, zq_Y, zq_Z, zq_0, zq_1, zq_2, zq_3, zq_4, zq_5, ↓zq_6, ↓zq_7, ↓zq_8, ↓zq_9, ↓zq_aa, zq_ab, zq_ac, zq_ad, zq_ae, zq_af, zq_ag, ↓zq_ah, ↓zq_ai, ↓zq_aj, zq_ak, ↓zq_al, ↓zq_am, e_b1, e_b2, x_o1, x_o2, ip, i1]
  · have ip := r_ip0 hW q0
    refine r_same (r := -1) hJ ?_
    rw [r_ent (show e_rok 224 [192, p, h] = true from decide_eq_true r_ref)]
    show e_tv E_C (E_V 224) e_t224_0 [192, p, h] M = _
    unfold e_t224_0
    simp [zq_a, zq_b, zq_c, zq_d, zq_e, zq_f, zq_g, zq_h, zq_i, zq_j, zq_k, zq_l, zq_m, zq_n, zq_o, zq_p, zq_q, zq_r, zq_s, zq_t, zq_u, zq_v, zq_w, zq_x, zq_y, zq_z, zq_A, zq_B, zq_C, zq_D, zq_E, zq_F, zq_G, zq_H, zq_I, zq_J, zq_K, zq_L, ↓zq_M, ↓zq_N, ↓zq_O, ↓zq_P, ↓zq_Q, ↓zq_R, zq_S, zq_T, zq_U, zq_V, zq_W, zq_X, zq_Y, zq_Z, zq_0, zq_1, zq_2, zq_3, zq_4, zq_5, ↓zq_6, ↓zq_7, ↓zq_8, ↓zq_9, ↓zq_aa, zq_ab, zq_ac, zq_ad, zq_ae, zq_af, zq_ag, ↓zq_ah, ↓zq_ai, ↓zq_aj, zq_ak, ↓zq_al, ↓zq_am, e_b1, e_b2, x_o1, x_o2, ip]
