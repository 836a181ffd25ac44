/-! wash, washed: the two answers -/
section FZ
variable {M M1 M2 K : EM} {n mN : Nat} {d told i r p r1 r2 : Int} {G : Nat → Int}
theorem fw_td (ht : 0 ≤ told ∧ told ≤ 2147483647) : e_w (told.tdiv 10000) = told / 10000 := by
  rw [Int.tdiv_eq_ediv_of_nonneg ht.1]
  exact a_w_id (by omega) (by omega)
theorem fw_232a (hv : told ≤ 2147483647) (ht : ¬ (0 ≤ told ∧ told ≤ 209999)) : E_C 232 [192, d, told] M = some (-1, M) := by
  have ks := h_is (d := d) M
  by_cases q0 : 0 ≤ d ∧ d < 8
  · rw [if_pos q0] at ks
    rcases x_le 0 told with ⟨q1, q1_n⟩ | ⟨q1, q1_n⟩
    · have e := fw_td ⟨q1, hv⟩
      have q2 : 20 < told / 10000 := by omega
      have q2n : ¬ told / 10000 ≤ 20 := by omega
      rw [r_ent (show e_rok 232 [192, d, told] = true from decide_eq_true r_ref)]
      show e_tv E_C (E_V 232) e_t232_0 [192, d, told, 0, 0] M = _
      unfold e_t232_0
      simp [zq_a, zq_b, zq_c, zq_d, zq_e, zq_f, zq_g, zq_h, zq_i, zq_j, zq_k, zq_l, zq_m, zq_n, zq_o, zq_p, zq_q, zq_r, zq_s, zq_t, zq_u, zq_v, zq_w, zq_x, zq_y, zq_z, zq_A, zq_B, zq_C, zq_D, zq_E, zq_F, zq_G, zq_H, zq_I, zq_J, zq_K, zq_L, ↓zq_M, ↓zq_N, ↓zq_O, ↓zq_P, ↓zq_Q, ↓zq_R, zq_S, zq_T, zq_U, zq_V, zq_W, zq_X, zq_Y, zq_Z, zq_0, zq_1, zq_2, zq_3, zq_4, zq_5, ↓zq_6, ↓zq_7, ↓zq_8, ↓zq_9, ↓zq_aa, zq_ab, zq_ac, zq_ad, zq_ae, zq_af, zq_ag, ↓zq_ah, ↓zq_ai, ↓zq_aj, zq_ak, ↓zq_al, ↓zq_am, e_b1, e_b2, x_o1, x_o2, ks, q1, q1_n, e, q2, q2n]
    · rw [r_ent (show e_rok 232 [192, d, told] = true from decide_eq_true r_ref)]
      show e_tv E_C (E_V 232) e_t232_0 [192, d, told, 0, 0] M = _
      unfold e_t232_0
      simp [zq_a, zq_b, zq_c, zq_d, zq_e, zq_f, zq_g, zq_h, zq_i, zq_j, zq_k, zq_l, zq_m, zq_n, zq_o, zq_p, zq_q, zq_r, zq_s, zq_t, zq_u, zq_v, zq_w, zq_x, zq_y, zq_z, zq_A, zq_B, zq_C, zq_D, zq_E, zq_F, zq_G, zq_H, zq_I, zq_J, zq_K, zq_L, ↓zq_M, ↓zq_N, ↓zq_O, ↓zq_P, ↓zq_Q, ↓zq_R, zq_S, zq_T, zq_U, zq_V, zq_W, zq_X, zq_Y, zq_Z, zq_0, zq_1, zq_2, zq_3, zq_4, zq_5, ↓zq_6, ↓zq_7, ↓zq_8, ↓zq_9, ↓zq_aa, zq_ab, zq_ac, zq_ad, zq_ae, zq_af, zq_ag, ↓zq_ah, ↓zq_ai, ↓zq_aj, zq_ak, ↓zq_al, ↓zq_am, e_b1, e_b2, x_o1, x_o2, ks, q1, q1_n]
  · rw [if_neg q0] at ks
    rw [r_ent (show e_rok 232 [192, d, told] = true from decide_eq_true r_ref)]
    show e_tv E_C (E_V 232) e_t232_0 [192, d, told, 0, 0] M = _
    unfold e_t232_0
    simp [zq_a, zq_b, zq_c, zq_d, zq_e, zq_f, zq_g, zq_h, zq_i, zq_j, zq_k, zq_l, zq_m, zq_n, zq_o, zq_p, zq_q, zq_r, zq_s, zq_t, zq_u, zq_v, zq_w, zq_x, zq_y, zq_z, zq_A, zq_B, zq_C, zq_D, zq_E, zq_F, zq_G, zq_H, zq_I, zq_J, zq_K, zq_L, ↓zq_M, ↓zq_N, ↓zq_O, ↓zq_P, ↓zq_Q, ↓zq_R, zq_S, zq_T, zq_U, zq_V, zq_W, zq_X, zq_Y, zq_Z, zq_0, zq_1, zq_2, zq_3, zq_4, zq_5, ↓zq_6, ↓zq_7, ↓zq_8, ↓zq_9, ↓zq_aa, zq_ab, zq_ac, zq_ad, zq_ae, zq_af, zq_ag, ↓zq_ah, ↓zq_ai, ↓zq_aj, zq_ak, ↓zq_al, ↓zq_am, e_b1, e_b2, x_o1, x_o2, ks]
theorem fw_232b (ht : 0 ≤ told ∧ told ≤ 209999) (h : h_no M d 1 ≠ 0) : E_C 232 [192, d, told] M = some (h_no M d 1, M) := by
  have ks := h_is (d := d) M
  have e := fw_td (told := told) ⟨ht.1, by omega⟩
  have q1 := ht.1
  have q1n : ¬ told < 0 := by omega
  have q2 : ¬ 20 < told / 10000 := by omega
  have q2n : told / 10000 ≤ 20 := by omega
  have kn := h_189 (d := d) (w := 1) (M := M) (by decide)
  by_cases q0 : 0 ≤ d ∧ d < 8
  · rw [if_pos q0] at ks
    generalize h_no M d 1 = z at *
    rw [r_ent (show e_rok 232 [192, d, told] = true from decide_eq_true r_ref)]
    show e_tv E_C (E_V 232) e_t232_0 [192, d, told, 0, 0] M = _
    unfold e_t232_0
    simp [zq_a, zq_b, zq_c, zq_d, zq_e, zq_f, zq_g, zq_h, zq_i, zq_j, zq_k, zq_l, zq_m, zq_n, zq_o, zq_p, zq_q, zq_r, zq_s, zq_t, zq_u, zq_v, zq_w, zq_x, zq_y, zq_z, zq_A, zq_B, zq_C, zq_D, zq_E, zq_F, zq_G, zq_H, zq_I, zq_J, zq_K, zq_L, ↓zq_M, ↓zq_N, ↓zq_O, ↓zq_P, ↓zq_Q, ↓zq_R, zq_S, zq_T, zq_U, zq_V, zq_W, zq_X, zq_Y, zq_Z, zq_0, zq_1, zq_2, zq_3, zq_4, zq_5, ↓zq_6, ↓zq_7, ↓zq_8, ↓zq_9, ↓zq_aa, zq_ab, zq_ac, zq_ad, zq_ae, zq_af, zq_ag, ↓zq_ah, ↓zq_ai, ↓zq_aj, zq_ak, ↓zq_al, ↓zq_am, e_b1, e_b2, x_o1, x_o2, ks, q1, q1n, e, q2, q2n, kn, h]
  · rw [if_neg q0] at ks
    have z : h_no M d 1 = -1 := if_neg q0
    rw [z]
    rw [r_ent (show e_rok 232 [192, d, told] = true from decide_eq_true r_ref)]
    show e_tv E_C (E_V 232) e_t232_0 [192, d, told, 0, 0] M = _
    unfold e_t232_0
    simp [zq_a, zq_b, zq_c, zq_d, zq_e, zq_f, zq_g, zq_h, zq_i, zq_j, zq_k, zq_l, zq_m, zq_n, zq_o, zq_p, zq_q, zq_r, zq_s, zq_t, zq_u, zq_v, zq_w, zq_x, zq_y, zq_z, zq_A, zq_B, zq_C, zq_D, zq_E, zq_F, zq_G, zq_H, zq_I, zq_J, zq_K, zq_L, ↓zq_M, ↓zq_N, ↓zq_O, ↓zq_P, ↓zq_Q, ↓zq_R, zq_S, zq_T, zq_U, zq_V, zq_W, zq_X, zq_Y, zq_Z, zq_0, zq_1, zq_2, zq_3, zq_4, zq_5, ↓zq_6, ↓zq_7, ↓zq_8, ↓zq_9, ↓zq_aa, zq_ab, zq_ac, zq_ad, zq_ae, zq_af, zq_ag, ↓zq_ah, ↓zq_ai, ↓zq_aj, zq_ak, ↓zq_al, ↓zq_am, e_b1, e_b2, x_o1, x_o2, ks]
theorem fw_232c (ht : 0 ≤ told ∧ told ≤ 209999) (h : h_no M d 1 = 0) (hd : d = mN) (m8 : mN < 8) (h7 : M 197 mN = n) (h8 : ∀ k, k < n → M 198 (120 * mN + k) = G k) (hn : n ≤ 120) : ∃ z, E_C 232 [192, d, told] M = some (z, M) ∧ (z = 0 ∨ z = -13) ∧ (z = 0 ↔ ws_g G n) := by
  have ks := h_is (d := d) M
  rw [if_pos (by omega)] at ks
  have e := fw_td (told := told) ⟨ht.1, by omega⟩
  have q1 := ht.1
  have q1n : ¬ told < 0 := by omega
  have q2 : ¬ 20 < told / 10000 := by omega
  have q2n : told / 10000 ≤ 20 := by omega
  have kn := h_189 (d := d) (w := 1) (M := M) (by decide)
  rw [h] at kn
  have ls := (r_isD d M ⟨by omega, by omega⟩).2.2.1
  rw [show d.toNat = mN by omega, h7] at ls
  have lp : ∀ (t k : Nat) (x3 x4 : Int), x4 = k → k + t = n → (∀ j, j < k → 0 ≤ G j ∧ G j ≤ 999) → ∃ z, E_V 232 59 [192, d, told, x3, x4] M = some (z, M) ∧ (z = 0 ∨ z = -13) ∧ (z = 0 ↔ ∀ j, j < n → 0 ≤ G j ∧ G j ≤ 999) := by
    intro t
    induction t with
    | zero =>
      intro k x3 x4 h4 hk hg
      have en : k = n := by omega
      subst en
      refine ⟨0, ?_, Or.inl rfl, fun _ => hg, fun _ => rfl⟩
      have q : ¬ (x4 < (k : Int)) := by omega
      clear hg h8 h7
      generalize (k : Int) = nn at *
      rw [E_V_eq]
      show e_tv E_C (E_V 232) e_t232_59 [192, d, told, x3, x4] M = _
      unfold e_t232_59
      simp [zq_a, zq_b, zq_c, zq_d, zq_e, zq_f, zq_g, zq_h, zq_i, zq_j, zq_k, zq_l, zq_m, zq_n, zq_o, zq_p, zq_q, zq_r, zq_s, zq_t, zq_u, zq_v, zq_w, zq_x, zq_y, zq_z, zq_A, zq_B, zq_C, zq_D, zq_E, zq_F, zq_G, zq_H, zq_I, zq_J, zq_K, zq_L, ↓zq_M, ↓zq_N, ↓zq_O, ↓zq_P, ↓zq_Q, ↓zq_R, zq_S, zq_T, zq_U, zq_V, zq_W, zq_X, zq_Y, zq_Z, zq_0, zq_1, zq_2, zq_3, zq_4, zq_5, ↓zq_6, ↓zq_7, ↓zq_8, ↓zq_9, ↓zq_aa, zq_ab, zq_ac, zq_ad, zq_ae, zq_af, zq_ag, ↓zq_ah, ↓zq_ai, ↓zq_aj, zq_ak, ↓zq_al, ↓zq_am, e_b1, e_b2, x_o1, x_o2, r_O4, ls, q]
    | succ t ih =>
      intro k x3 x4 h4 hk hg
      have q : x4 < (n : Int) := by omega
      have w1 : e_w (120 * d) = 120 * d := a_w_id (by omega) (by omega)
      have w2 : e_w (120 * d + x4) = 120 * d + x4 := a_w_id (by omega) (by omega)
      have w4 : e_w (x4 + 1) = x4 + 1 := a_w_id (by omega) (by omega)
      have le : e_op 60 [198, 120 * d + x4] M = some (G k) := (r_rdE (by omega) (by omega)).trans (congrArg some (by rw [show (120 * d + x4).toNat = 120 * mN + k by omega, h8 k (by omega)]))
      by_cases c : 0 ≤ G k ∧ G k ≤ 999
      · have i1 := r_in1 (M := M) c
        obtain ⟨z, kz, z1, z2⟩ := ih (k + 1) x3 (x4 + 1) (by omega) (by omega) (fun j hj => by
          by_cases ej : j = k
          · rw [ej]; exact c
          · exact hg j (by omega))
        refine ⟨z, ?_, z1, z2⟩
        rw [← kz]
        clear hg h8 kz z1 z2 ih c
        generalize (n : Int) = nn at *
        generalize G k = gk at *
        rw [E_V_eq]
        show e_tv E_C (E_V 232) e_t232_59 [192, d, told, x3, x4] M = _
        unfold e_t232_59
        simp [zq_a, zq_b, zq_c, zq_d, zq_e, zq_f, zq_g, zq_h, zq_i, zq_j, zq_k, zq_l, zq_m, zq_n, zq_o, zq_p, zq_q, zq_r, zq_s, zq_t, zq_u, zq_v, zq_w, zq_x, zq_y, zq_z, zq_A, zq_B, zq_C, zq_D, zq_E, zq_F, zq_G, zq_H, zq_I, zq_J, zq_K, zq_L, ↓zq_M, ↓zq_N, ↓zq_O, ↓zq_P, ↓zq_Q, ↓zq_R, zq_S, zq_T, zq_U, zq_V, zq_W, zq_X, zq_Y, zq_Z, zq_0, zq_1, zq_2, zq_3, zq_4, zq_5, ↓zq_6, ↓zq_7, ↓zq_8, ↓zq_9, ↓zq_aa, zq_ab, zq_ac, zq_ad, zq_ae, zq_af, zq_ag, ↓zq_ah, ↓zq_ai, ↓zq_aj, zq_ak, ↓zq_al, ↓zq_am, e_b1, e_b2, x_o1, x_o2, r_O4, r_O5, ls, q, w1, w2, w4, le, i1]
      · have i1 := r_in0 (M := M) c
        refine ⟨-13, ?_, Or.inr rfl, fun h => absurd h (by decide), fun h => absurd (h k (by omega)) c⟩
        clear hg h8 ih c
        generalize (n : Int) = nn at *
        generalize G k = gk at *
        rw [E_V_eq]
        show e_tv E_C (E_V 232) e_t232_59 [192, d, told, x3, x4] M = _
        unfold e_t232_59
        simp [zq_a, zq_b, zq_c, zq_d, zq_e, zq_f, zq_g, zq_h, zq_i, zq_j, zq_k, zq_l, zq_m, zq_n, zq_o, zq_p, zq_q, zq_r, zq_s, zq_t, zq_u, zq_v, zq_w, zq_x, zq_y, zq_z, zq_A, zq_B, zq_C, zq_D, zq_E, zq_F, zq_G, zq_H, zq_I, zq_J, zq_K, zq_L, ↓zq_M, ↓zq_N, ↓zq_O, ↓zq_P, ↓zq_Q, ↓zq_R, zq_S, zq_T, zq_U, zq_V, zq_W, zq_X, zq_Y, zq_Z, zq_0, zq_1, zq_2, zq_3, zq_4, zq_5, ↓zq_6, ↓zq_7, ↓zq_8, ↓zq_9, ↓zq_aa, zq_ab, zq_ac, zq_ad, zq_ae, zq_af, zq_ag, ↓zq_ah, ↓zq_ai, ↓zq_aj, zq_ak, ↓zq_al, ↓zq_am, e_b1, e_b2, x_o1, x_o2, r_O4, r_O5, ls, q, w1, w2, le, i1]
  by_cases c : 1 ≤ (n : Int) ∧ (n : Int) ≤ 30
  · have i1 := r_in1 (M := M) c
    obtain ⟨z, kz, z1, z2⟩ := lp n 0 0 0 rfl (by omega) (fun j h => absurd h (Nat.not_lt_zero _))
    refine ⟨z, ?_, z1, fun h => ⟨by omega, z2.mp h⟩, fun h => z2.mpr h.2⟩
    clear lp h8 z1 z2 c
    generalize (n : Int) = nn at *
    rw [r_ent (show e_rok 232 [192, d, told] = true from decide_eq_true r_ref)]
    show e_tv E_C (E_V 232) e_t232_0 [192, d, told, 0, 0] M = _
    unfold e_t232_0
    simp [zq_a, zq_b, zq_c, zq_d, zq_e, zq_f, zq_g, zq_h, zq_i, zq_j, zq_k, zq_l, zq_m, zq_n, zq_o, zq_p, zq_q, zq_r, zq_s, zq_t, zq_u, zq_v, zq_w, zq_x, zq_y, zq_z, zq_A, zq_B, zq_C, zq_D, zq_E, zq_F, zq_G, zq_H, zq_I, zq_J, zq_K, zq_L, ↓zq_M, ↓zq_N, ↓zq_O, ↓zq_P, ↓zq_Q, ↓zq_R, zq_S, zq_T, zq_U, zq_V, zq_W, zq_X, zq_Y, zq_Z, zq_0, zq_1, zq_2, zq_3, zq_4, zq_5, ↓zq_6, ↓zq_7, ↓zq_8, ↓zq_9, ↓zq_aa, zq_ab, zq_ac, zq_ad, zq_ae, zq_af, zq_ag, ↓zq_ah, ↓zq_ai, ↓zq_aj, zq_ak, ↓zq_al, ↓zq_am, e_b1, e_b2, x_o1, x_o2, r_O4, ks, q1, q1n, e, q2, q2n, kn, ls, i1, kz]
  · have i1 := r_in0 (M := M) c
    refine ⟨-13, ?_, Or.inr rfl, fun h => absurd h (by decide), fun h => absurd h.1 (by omega)⟩
    clear lp h8 c
    generalize (n : Int) = nn at *
    rw [r_ent (show e_rok 232 [192, d, told] = true from decide_eq_true r_ref)]
    show e_tv E_C (E_V 232) e_t232_0 [192, d, told, 0, 0] M = _
    unfold e_t232_0
    simp [zq_a, zq_b, zq_c, zq_d, zq_e, zq_f, zq_g, zq_h, zq_i, zq_j, zq_k, zq_l, zq_m, zq_n, zq_o, zq_p, zq_q, zq_r, zq_s, zq_t, zq_u, zq_v, zq_w, zq_x, zq_y, zq_z, zq_A, zq_B, zq_C, zq_D, zq_E, zq_F, zq_G, zq_H, zq_I, zq_J, zq_K, zq_L, ↓zq_M, ↓zq_N, ↓zq_O, ↓zq_P, ↓zq_Q, ↓zq_R, zq_S, zq_T, zq_U, zq_V, zq_W, zq_X, zq_Y, zq_Z, zq_0, zq_1, zq_2, zq_3, zq_4, zq_5, ↓zq_6, ↓zq_7, ↓zq_8, ↓zq_9, ↓zq_aa, zq_ab, zq_ac, zq_ad, zq_ae, zq_af, zq_ag, ↓zq_ah, ↓zq_ai, ↓zq_aj, zq_ak, ↓zq_al, ↓zq_am, e_b1, e_b2, x_o1, x_o2, r_O4, ks, q1, q1n, e, q2, q2n, kn, ls, i1]
/-- the class -/
theorem ax_161s : E_C 161 [8, d, told] M = e_tv E_C (E_V 161) e_t161_0 [8, d, told, 0, 0] M := r_ent (u := 161) (as := [8, d, told]) (M := M) (decide_eq_true c_this)
theorem ax_161a (ht : ¬ (0 ≤ told ∧ told ≤ 209999)) : E_C 161 [8, d, told] M = some (-1, M) := by
  have c0 : ∃ x, E_C 154 [8, d] M = some (x, M) := by
    by_cases hd : 0 ≤ d ∧ d < 8
    · obtain ⟨m, hm⟩ : ∃ m : Nat, d = m := ⟨d.toNat, by omega⟩
      rw [hm]
      exact ⟨_, h_154a (by omega) (by omega) (h_rd145 (by omega) M)⟩
    · exact ⟨_, h_154n hd⟩
  obtain ⟨x, c0⟩ := c0
  rw [ax_161s]
  unfold e_t161_0
  rcases x_le 0 told with ⟨q1, q1_n⟩ | ⟨q1, q1_n⟩
  · have q2 : 209999 < told := by omega
    have q2n : ¬ told ≤ 209999 := by omega
    simp [zq_a, zq_b, zq_c, zq_d, zq_e, zq_f, zq_g, zq_h, zq_i, zq_j, zq_k, zq_l, zq_m, zq_n, zq_o, zq_p, zq_q, zq_r, zq_s, zq_t, zq_u, zq_v, zq_w, zq_x, zq_y, zq_z, zq_A, zq_B, zq_C, zq_D, zq_E, zq_F, zq_G, zq_H, zq_I, zq_J, zq_K, zq_L, ↓zq_M, ↓zq_N, ↓zq_O, ↓zq_P, ↓zq_Q, ↓zq_R, zq_S, zq_T, zq_U, zq_V, zq_W, zq_X, zq_Y, zq_Z, zq_0, zq_1, zq_2, zq_3, zq_4, zq_5, ↓zq_6, ↓zq_7, ↓zq_8, ↓zq_9, ↓zq_aa, zq_ab, zq_ac, zq_ad, zq_ae, zq_af, zq_ag, ↓zq_ah, ↓zq_ai, ↓zq_aj, zq_ak, ↓zq_al, ↓zq_am, e_b1, e_b2, x_o1, x_o2, c0, q1, q1_n, q2, q2n]
  · simp [zq_a, zq_b, zq_c, zq_d, zq_e, zq_f, zq_g, zq_h, zq_i, zq_j, zq_k, zq_l, zq_m, zq_n, zq_o, zq_p, zq_q, zq_r, zq_s, zq_t, zq_u, zq_v, zq_w, zq_x, zq_y, zq_z, zq_A, zq_B, zq_C, zq_D, zq_E, zq_F, zq_G, zq_H, zq_I, zq_J, zq_K, zq_L, ↓zq_M, ↓zq_N, ↓zq_O, ↓zq_P, ↓zq_Q, ↓zq_R, zq_S, zq_T, zq_U, zq_V, zq_W, zq_X, zq_Y, zq_Z, zq_0, zq_1, zq_2, zq_3, zq_4, zq_5, ↓zq_6, ↓zq_7, ↓zq_8, ↓zq_9, ↓zq_aa, zq_ab, zq_ac, zq_ad, zq_ae, zq_af, zq_ag, ↓zq_ah, ↓zq_ai, ↓zq_aj, zq_ak, ↓zq_al, ↓zq_am, e_b1, e_b2, x_o1, x_o2, c0, q1, q1_n]
theorem ax_161b (hS : h_S M) (ht : 0 ≤ told ∧ told ≤ 209999) (h : h_no M d 1 ≠ 0) : E_C 161 [8, d, told] M = some (h_no M d 1, M) := by
  have q1 := ht.1
  have q1n : ¬ told < 0 := by omega
  have q2 : ¬ 209999 < told := by omega
  have q2n := ht.2
  rw [ax_161s]
  unfold e_t161_0
  by_cases hd : 0 ≤ d ∧ d < 8
  · obtain ⟨c0, c1⟩ := h_ref (w := 1) hS hd
    generalize h_no M d 1 = z at *
    generalize ((146 + 2 * d.toNat : Nat) : Int) = x at *
    simp [zq_a, zq_b, zq_c, zq_d, zq_e, zq_f, zq_g, zq_h, zq_i, zq_j, zq_k, zq_l, zq_m, zq_n, zq_o, zq_p, zq_q, zq_r, zq_s, zq_t, zq_u, zq_v, zq_w, zq_x, zq_y, zq_z, zq_A, zq_B, zq_C, zq_D, zq_E, zq_F, zq_G, zq_H, zq_I, zq_J, zq_K, zq_L, ↓zq_M, ↓zq_N, ↓zq_O, ↓zq_P, ↓zq_Q, ↓zq_R, zq_S, zq_T, zq_U, zq_V, zq_W, zq_X, zq_Y, zq_Z, zq_0, zq_1, zq_2, zq_3, zq_4, zq_5, ↓zq_6, ↓zq_7, ↓zq_8, ↓zq_9, ↓zq_aa, zq_ab, zq_ac, zq_ad, zq_ae, zq_af, zq_ag, ↓zq_ah, ↓zq_ai, ↓zq_aj, zq_ak, ↓zq_al, ↓zq_am, e_b1, e_b2, x_o1, x_o2, c0, c1, q1, q1n, q2, q2n, h]
  · obtain ⟨c0, c1, c2⟩ := h_ref1 (M := M) (w := 1) hd
    rw [c2]
    simp [zq_a, zq_b, zq_c, zq_d, zq_e, zq_f, zq_g, zq_h, zq_i, zq_j, zq_k, zq_l, zq_m, zq_n, zq_o, zq_p, zq_q, zq_r, zq_s, zq_t, zq_u, zq_v, zq_w, zq_x, zq_y, zq_z, zq_A, zq_B, zq_C, zq_D, zq_E, zq_F, zq_G, zq_H, zq_I, zq_J, zq_K, zq_L, ↓zq_M, ↓zq_N, ↓zq_O, ↓zq_P, ↓zq_Q, ↓zq_R, zq_S, zq_T, zq_U, zq_V, zq_W, zq_X, zq_Y, zq_Z, zq_0, zq_1, zq_2, zq_3, zq_4, zq_5, ↓zq_6, ↓zq_7, ↓zq_8, ↓zq_9, ↓zq_aa, zq_ab, zq_ac, zq_ad, zq_ae, zq_af, zq_ag, ↓zq_ah, ↓zq_ai, ↓zq_aj, zq_ak, ↓zq_al, ↓zq_am, e_b1, e_b2, x_o1, x_o2, c0, c1, q1, q1n, q2, q2n]
theorem h_row0 (hS : h_S M) {w : Int} (h : h_no M d w = 0) : ∃ m : Nat, d = m ∧ m < 8 ∧ M (146 + 2 * m) 5 = M 197 m ∧ ∀ i, i < 120 → M (147 + 2 * m) i = M 198 (120 * m + i) := by
  obtain ⟨hd, k2⟩ := h_no2 h
  obtain ⟨m, hm⟩ : ∃ m : Nat, d = m := ⟨d.toNat, by omega⟩
  refine ⟨m, hm, by omega, ?_⟩
  rw [hm, Int.toNat_natCast] at k2
  rcases hS m (by omega) with ⟨b1, -⟩ | ⟨b1, -⟩ | ⟨-, -, -, -, b5, b6⟩
  · omega
  · omega
  · exact ⟨b5, b6⟩
theorem ax_161c (hS : h_S M) (ht : 0 ≤ told ∧ told ≤ 209999) (h : h_no M d 1 = 0) (hd : d = mN) (m8 : mN < 8) (h5 : M (146 + 2 * mN) 5 = n) (h8 : ∀ k, k < n → M (147 + 2 * mN) k = G k) (hn : n ≤ 120) (hg : ¬ ws_g G n) : E_C 161 [8, d, told] M = some (-13, M) := by
  have q1 := ht.1
  have q1n : ¬ told < 0 := by omega
  have q2 : ¬ 209999 < told := by omega
  have q2n := ht.2
  have hh := (h_gr145 m8).2
  obtain ⟨c0, c1⟩ := h_ref (w := 1) hS (show 0 ≤ d ∧ d < 8 by omega)
  rw [h] at c1
  rw [show d.toNat = mN by omega] at c0 c1
  have hne : ¬ ((146 + 2 * mN : Nat) : Int) = -1 := by omega
  obtain ⟨z, kz, hz⟩ := ws_162 (K := M) (n := n) (G := G) hh hn (by rw [Int.toNat_natCast]; exact h5) (fun k hk => by rw [show (((146 + 2 * mN : Nat) : Int) + 1).toNat = 147 + 2 * mN by omega]; exact h8 k hk)
  have z0 : z = 0 := by
    rcases Classical.em (z = 0) with y | y
    · exact y
    · exact absurd (hz.mp y) hg
  rw [z0] at kz
  rw [ax_161s]
  unfold e_t161_0
  generalize ((146 + 2 * mN : Nat) : Int) = x at *
  simp [zq_a, zq_b, zq_c, zq_d, zq_e, zq_f, zq_g, zq_h, zq_i, zq_j, zq_k, zq_l, zq_m, zq_n, zq_o, zq_p, zq_q, zq_r, zq_s, zq_t, zq_u, zq_v, zq_w, zq_x, zq_y, zq_z, zq_A, zq_B, zq_C, zq_D, zq_E, zq_F, zq_G, zq_H, zq_I, zq_J, zq_K, zq_L, ↓zq_M, ↓zq_N, ↓zq_O, ↓zq_P, ↓zq_Q, ↓zq_R, zq_S, zq_T, zq_U, zq_V, zq_W, zq_X, zq_Y, zq_Z, zq_0, zq_1, zq_2, zq_3, zq_4, zq_5, ↓zq_6, ↓zq_7, ↓zq_8, ↓zq_9, ↓zq_aa, zq_ab, zq_ac, zq_ad, zq_ae, zq_af, zq_ag, ↓zq_ah, ↓zq_ai, ↓zq_aj, zq_ak, ↓zq_al, ↓zq_am, e_b1, e_b2, x_o1, x_o2, c0, c1, q1, q1n, q2, q2n, hne, kz]
theorem ax_161d (hS : h_S M) (ht : 0 ≤ told ∧ told ≤ 209999) (h : h_no M d 1 = 0) (hd : d = mN) (m8 : mN < 8) (h5 : M (146 + 2 * mN) 5 = n) (h8 : ∀ k, k < n → M (147 + 2 * mN) k = G k) (hg : ws_g G n) : ∃ M', E_C 161 [8, d, told] M = some (0, M') ∧ ws_V (wh_y G (told.tdiv 10000)) n (told.tmod 10000) M' 0 := by
  have q1 := ht.1
  have q1n : ¬ told < 0 := by omega
  have q2 : ¬ 209999 < told := by omega
  have q2n := ht.2
  have hh := (h_gr145 m8).2
  obtain ⟨c0, c1⟩ := h_ref (w := 1) hS (show 0 ≤ d ∧ d < 8 by omega)
  rw [h] at c1
  rw [show d.toNat = mN by omega] at c0 c1
  have hne : ¬ ((146 + 2 * mN : Nat) : Int) = -1 := by omega
  have e5 : M ((146 + 2 * mN : Nat) : Int).toNat 5 = n := by rw [Int.toNat_natCast]; exact h5
  have e8 : ∀ k, k < n → M (((146 + 2 * mN : Nat) : Int) + 1).toNat k = G k := fun k hk => by rw [show (((146 + 2 * mN : Nat) : Int) + 1).toNat = 147 + 2 * mN by omega]; exact h8 k hk
  obtain ⟨z, kz, hz⟩ := ws_162 (K := M) (n := n) (G := G) hh (by have := hg.1; omega) e5 e8
  have z0 : z ≠ 0 := hz.mpr hg
  have hr : 0 ≤ told.tdiv 10000 ∧ told.tdiv 10000 ≤ 20 := by
    rw [Int.tdiv_eq_ediv_of_nonneg ht.1]
    omega
  have hp : 0 ≤ told.tmod 10000 ∧ told.tmod 10000 ≤ 9999 := by
    rw [Int.tmod_eq_emod_of_nonneg ht.1]
    omega
  have wr : e_w (told.tdiv 10000) = told.tdiv 10000 := a_w_id (by omega) (by omega)
  generalize hrr : told.tdiv 10000 = r at *
  generalize hpp : told.tmod 10000 = p at *
  obtain ⟨M', kp, v, -⟩ := ws_100 (K0 := M) hg.1 hh hr hp e5 e8 hg.2
  refine ⟨M', ?_, v⟩
  rw [ax_161s]
  unfold e_t161_0
  clear v e5 e8 h8 h5
  generalize ((146 + 2 * mN : Nat) : Int) = x at *
  simp [zq_a, zq_b, zq_c, zq_d, zq_e, zq_f, zq_g, zq_h, zq_i, zq_j, zq_k, zq_l, zq_m, zq_n, zq_o, zq_p, zq_q, zq_r, zq_s, zq_t, zq_u, zq_v, zq_w, zq_x, zq_y, zq_z, zq_A, zq_B, zq_C, zq_D, zq_E, zq_F, zq_G, zq_H, zq_I, zq_J, zq_K, zq_L, ↓zq_M, ↓zq_N, ↓zq_O, ↓zq_P, ↓zq_Q, ↓zq_R, zq_S, zq_T, zq_U, zq_V, zq_W, zq_X, zq_Y, zq_Z, zq_0, zq_1, zq_2, zq_3, zq_4, zq_5, ↓zq_6, ↓zq_7, ↓zq_8, ↓zq_9, ↓zq_aa, zq_ab, zq_ac, zq_ad, zq_ae, zq_af, zq_ag, ↓zq_ah, ↓zq_ai, ↓zq_aj, zq_ak, ↓zq_al, ↓zq_am, e_b1, e_b2, x_o1, x_o2, ws_7, c0, c1, q1, q1n, q2, q2n, hne, kz, z0, hrr, hpp, wr, kp]
/-- the reference's days of washing -/
theorem fw_52 {y : Nat → Nat → Int} {A W : Nat → Int} {N : Nat → Nat} (hy : y = wh_y G r) (h : fw_f mN n r p G K) (m8 : mN < 8) (hn : n ≤ 30) (hr : 0 ≤ r ∧ r ≤ 20) (hp : 0 ≤ p ∧ p ≤ 9999) (hG : ∀ k, k < n → 0 ≤ G k ∧ G k ≤ 999) (hV : fw_V y n p K 0) (h0 : A n = 0 ∧ W n = 0) (hC : wh_C y n p A W N 0) {mI x4 : Int} (hm : mI = mN) (hi : 0 ≤ i) : ∀ (j k c : Nat) (x5 x6 x7 x8 : Int), x7 = k → k + j = n → c < k → k ≤ N c → x6 = ((k - c : Nat) : Int) → 0 ≤ x5 → x5 ≤ i → x5 ≤ k → E_V 237 52 [192, mI, told, i, x4, x5, x6, x7, x8] K = some (if i - x5 < W c then (wh_r N (i - x5).toNat (N c) : Int) else -4, K) := by
  have ls := (r_isD mI K ⟨by omega, by omega⟩).2.2.1
  rw [show mI.toNat = mN by omega, h.2.2.2.1] at ls
  have hR : wh_R y n p (fun k s => K 207 (32 * k + s)) (fun k s => K 208 (32 * k + s)) := ⟨fun s hs => hV.1 s (by omega), fun k s hk hs => hV.2.1 k s (Nat.zero_le _) hk hs⟩
  intro j
  induction j with
  | zero =>
    intro k c x5 x6 x7 x8 h7 hk hc hkN h6 x50 x5i x5k
    have e : k = n := by omega
    obtain ⟨⟨n1, n2⟩, -, w, -⟩ := hC c (Nat.zero_le _) (by omega)
    rw [if_neg (by omega)] at w
    rw [w, if_neg (by omega)]
    have q : ¬ (x7 < (n : Int)) := by omega
    clear hV hR hC h hG
    generalize (n : Int) = nn at *
    rw [E_V_eq]
    show e_tv E_C (E_V 237) e_t237_52 [192, mI, told, i, x4, x5, x6, x7, x8] K = _
    unfold e_t237_52
    simp [zq_a, zq_b, zq_c, zq_d, zq_e, zq_f, zq_g, zq_h, zq_i, zq_j, zq_k, zq_l, zq_m, zq_n, zq_o, zq_p, zq_q, zq_r, zq_s, zq_t, zq_u, zq_v, zq_w, zq_x, zq_y, zq_z, zq_A, zq_B, zq_C, zq_D, zq_E, zq_F, zq_G, zq_H, zq_I, zq_J, zq_K, zq_L, ↓zq_M, ↓zq_N, ↓zq_O, ↓zq_P, ↓zq_Q, ↓zq_R, zq_S, zq_T, zq_U, zq_V, zq_W, zq_X, zq_Y, zq_Z, zq_0, zq_1, zq_2, zq_3, zq_4, zq_5, ↓zq_6, ↓zq_7, ↓zq_8, ↓zq_9, ↓zq_aa, zq_ab, zq_ac, zq_ad, zq_ae, zq_af, zq_ag, ↓zq_ah, ↓zq_ai, ↓zq_aj, zq_ak, ↓zq_al, ↓zq_am, e_b1, e_b2, x_o1, x_o2, r_O4, ls, q]
  | succ j ih =>
    intro k c x5 x6 x7 x8 h7 hk hc hkN h6 x50 x5i x5k
    have kn : k < n := by omega
    have pa := wh_path hp.1 hn h0 hC hR hc hkN kn
    obtain ⟨⟨n1, n2⟩, -, w, -⟩ := hC c (Nat.zero_le _) (by omega)
    have b1 := hV.2.2 (k + 1) (k - c + 1) (Nat.zero_le _) (by omega) (by omega)
    have b2 := hV.2.2 (k + 1) 1 (Nat.zero_le _) (by omega) (by omega)
    obtain ⟨z, kz, hz⟩ := fw_234 h m8 hn hr hp hG h7 h6 kn (show k - c ≤ k by omega) (by omega) (by omega)
    rw [← hy] at hz
    have q : x7 < (n : Int) := by omega
    have w1 : e_w (x7 + 1) = x7 + 1 := a_w_id (by omega) (by omega)
    rcases hz with ⟨hz, P⟩ | ⟨hz, P⟩
    · subst hz
      have ek := pa.mp P
      rw [if_pos (by omega), ← ek] at w
      have wb := wh_Wb h0.2 hC (n - k) k (Nat.zero_le _) (by omega)
      by_cases e5 : x5 = i
      · rw [w, if_pos (by omega), show (i - x5).toNat = 0 by omega]
        show _ = some ((N c : Int), K)
        rw [← ek, ← h7]
        clear hV hR hC h hG ih
        generalize (n : Int) = nn at *
        rw [E_V_eq]
        show e_tv E_C (E_V 237) e_t237_52 [192, mI, told, i, x4, x5, x6, x7, x8] K = _
        unfold e_t237_52
        simp [zq_a, zq_b, zq_c, zq_d, zq_e, zq_f, zq_g, zq_h, zq_i, zq_j, zq_k, zq_l, zq_m, zq_n, zq_o, zq_p, zq_q, zq_r, zq_s, zq_t, zq_u, zq_v, zq_w, zq_x, zq_y, zq_z, zq_A, zq_B, zq_C, zq_D, zq_E, zq_F, zq_G, zq_H, zq_I, zq_J, zq_K, zq_L, ↓zq_M, ↓zq_N, ↓zq_O, ↓zq_P, ↓zq_Q, ↓zq_R, zq_S, zq_T, zq_U, zq_V, zq_W, zq_X, zq_Y, zq_Z, zq_0, zq_1, zq_2, zq_3, zq_4, zq_5, ↓zq_6, ↓zq_7, ↓zq_8, ↓zq_9, ↓zq_aa, zq_ab, zq_ac, zq_ad, zq_ae, zq_af, zq_ag, ↓zq_ah, ↓zq_ai, ↓zq_aj, zq_ak, ↓zq_al, ↓zq_am, e_b1, e_b2, x_o1, x_o2, r_O4, ls, q, kz, e5]
      · obtain ⟨⟨m1, m2⟩, -⟩ := hC k (Nat.zero_le _) kn
        have kk := ih (k + 1) k (x5 + 1) 1 (x7 + 1) 1 (by omega) (by omega) (by omega) (by omega) (by omega) (by omega) (by omega) (by omega)
        have er : (if i - x5 < W c then (wh_r N (i - x5).toNat (N c) : Int) else -4) = (if i - (x5 + 1) < W k then (wh_r N (i - (x5 + 1)).toNat (N k) : Int) else -4) := by
          rw [w]
          rcases x_lt (i - (x5 + 1)) (W k) with ⟨l, l_n⟩ | ⟨l, l_n⟩
          · rw [if_pos l, if_pos (by omega), show (i - x5).toNat = (i - (x5 + 1)).toNat + 1 by omega]
            show ((wh_r N (i - (x5 + 1)).toNat (N (N c)) : Nat) : Int) = _
            rw [← ek]
          · rw [if_neg l, if_neg (by omega)]
        rw [er, ← kk]
        have w2 : e_w (x5 + 1) = x5 + 1 := a_w_id (by omega) (by omega)
        clear hV hR hC h hG ih kk er
        generalize (n : Int) = nn at *
        rw [E_V_eq]
        show e_tv E_C (E_V 237) e_t237_52 [192, mI, told, i, x4, x5, x6, x7, x8] K = _
        unfold e_t237_52
        simp [zq_a, zq_b, zq_c, zq_d, zq_e, zq_f, zq_g, zq_h, zq_i, zq_j, zq_k, zq_l, zq_m, zq_n, zq_o, zq_p, zq_q, zq_r, zq_s, zq_t, zq_u, zq_v, zq_w, zq_x, zq_y, zq_z, zq_A, zq_B, zq_C, zq_D, zq_E, zq_F, zq_G, zq_H, zq_I, zq_J, zq_K, zq_L, ↓zq_M, ↓zq_N, ↓zq_O, ↓zq_P, ↓zq_Q, ↓zq_R, zq_S, zq_T, zq_U, zq_V, zq_W, zq_X, zq_Y, zq_Z, zq_0, zq_1, zq_2, zq_3, zq_4, zq_5, ↓zq_6, ↓zq_7, ↓zq_8, ↓zq_9, ↓zq_aa, zq_ab, zq_ac, zq_ad, zq_ae, zq_af, zq_ag, ↓zq_ah, ↓zq_ai, ↓zq_aj, zq_ak, ↓zq_al, ↓zq_am, e_b1, e_b2, x_o1, x_o2, r_O4, ls, q, kz, e5, w1, w2]
    · subst hz
      have kk := ih (k + 1) c x5 (x6 + 1) (x7 + 1) 0 (by omega) (by omega) (by omega) (by
        rcases Classical.em (k = N c) with y | y
        · exact absurd (pa.mpr y) P
        · omega) (by omega) x50 x5i (by omega)
      rw [← kk]
      have w2 : e_w (x6 + 1) = x6 + 1 := a_w_id (by omega) (by omega)
      have w3 : e_w x5 = x5 := a_w_id (by omega) (by omega)
      clear hV hR hC h hG ih kk
      generalize (n : Int) = nn at *
      rw [E_V_eq]
      show e_tv E_C (E_V 237) e_t237_52 [192, mI, told, i, x4, x5, x6, x7, x8] K = _
      unfold e_t237_52
      simp [zq_a, zq_b, zq_c, zq_d, zq_e, zq_f, zq_g, zq_h, zq_i, zq_j, zq_k, zq_l, zq_m, zq_n, zq_o, zq_p, zq_q, zq_r, zq_s, zq_t, zq_u, zq_v, zq_w, zq_x, zq_y, zq_z, zq_A, zq_B, zq_C, zq_D, zq_E, zq_F, zq_G, zq_H, zq_I, zq_J, zq_K, zq_L, ↓zq_M, ↓zq_N, ↓zq_O, ↓zq_P, ↓zq_Q, ↓zq_R, zq_S, zq_T, zq_U, zq_V, zq_W, zq_X, zq_Y, zq_Z, zq_0, zq_1, zq_2, zq_3, zq_4, zq_5, ↓zq_6, ↓zq_7, ↓zq_8, ↓zq_9, ↓zq_aa, zq_ab, zq_ac, zq_ad, zq_ae, zq_af, zq_ag, ↓zq_ah, ↓zq_ai, ↓zq_aj, zq_ak, ↓zq_al, ↓zq_am, e_b1, e_b2, x_o1, x_o2, r_O4, ls, q, kz, w1, w2, w3]
/-- both plans: what is asked of them -/
theorem fw_both (hS : h_S M) (hfr : ∀ id i, 192 ≤ id → M1 id i = M id i) (ht : 0 ≤ told ∧ told ≤ 209999) (hJ : r_J M) (h : h_no M d 1 = 0) : (E_C 161 [8, d, told] M = some (-13, M) ∧ E_C 232 [192, d, told] M1 = some (-13, M1)) ∨ ∃ (m n : Nat) (G : Nat → Int) (M' K : EM), d = m ∧ m < 8 ∧ ws_g G n ∧ E_C 161 [8, d, told] M = some (0, M') ∧ ws_V (wh_y G (told.tdiv 10000)) n (told.tmod 10000) M' 0 ∧ E_C 232 [192, d, told] M1 = some (0, M1) ∧ E_C 235 [192, d, told] M1 = some (0, K) ∧ fw_f m n (told.tdiv 10000) (told.tmod 10000) G K ∧ fw_V (wh_y G (told.tdiv 10000)) n (told.tmod 10000) K 0 := by
  obtain ⟨m, hm, m8, e5, e8⟩ := h_row0 hS h
  have sz := hJ.2.1 m m8
  obtain ⟨n, hn⟩ : ∃ n : Nat, M 197 m = n := ⟨(M 197 m).toNat, by omega⟩
  rw [hn] at sz e5
  have h1 : h_no M1 d 1 = 0 := by
    rw [← h]
    unfold h_no
    rw [hfr _ _ (by decide), hfr _ _ (by decide)]
  obtain ⟨z, kz, z1, z2⟩ := fw_232c (G := fun k => M 198 (120 * m + k)) ht h1 hm m8 ((hfr _ _ (by decide)).trans hn) (fun k hk => hfr _ _ (by decide)) (by omega)
  rcases z1 with z1 | z1
  · subst z1
    have hg := z2.mp rfl
    obtain ⟨M', k1, v1⟩ := ax_161d (G := fun k => M 198 (120 * m + k)) hS ht h hm m8 e5 (fun k hk => e8 k (by omega)) hg
    obtain ⟨K, k2, f2, v2⟩ := fw_235 (K := M1) (G := fun k => M 198 (120 * m + k)) m8 hg.1 hm ht ((hfr _ _ (by decide)).trans hn) (fun k hk => hfr _ _ (by decide)) hg.2
    exact Or.inr ⟨m, n, _, M', K, hm, m8, hg, k1, v1, kz, k2, f2, v2⟩
  · subst z1
    have hg : ¬ ws_g (fun k => M 198 (120 * m + k)) n := fun h => absurd (z2.mpr h) (by decide)
    exact Or.inl ⟨ax_161c hS ht h hm m8 e5 (fun k hk => e8 k (by omega)) (by omega) hg, kz⟩
theorem wh_two {y : Nat → Nat → Int} {M' : EM} (hp : 0 ≤ p) (hn : n ≤ 30) (hV : ws_V y n p M' 0) (hW : fw_V y n p K 0) : K 207 0 = M' 184 0 ∧ K 208 0 = M' 185 0 ∧ (M' 184 n = 0 ∧ M' 185 n = 0) := by
  have b := (hV.2 n (Nat.zero_le _) (Nat.le_refl _)).1
  have h0 : M' 184 n = 0 ∧ M' 185 n = 0 := by omega
  have m := wh_main (M := fun u => M' 184 u) (W := fun u => M' 185 u) (m := fun k s => K 207 (32 * k + s)) (t := fun k s => K 208 (32 * k + s)) hp hn h0 hV.1 ⟨fun s hs => hW.1 s (by omega), fun k s hk hs => hW.2.1 k s (Nat.zero_le _) hk hs⟩ n 0 (by omega)
  exact ⟨m.2.1.1, m.2.1.2, h0⟩
theorem ax_wash (hS : h_S M) (hJ : r_J M) (hv : told ≤ 2147483647) (hfr : ∀ id i, 192 ≤ id → M1 id i = M id i) (k1 : E_C 125 [8, d, told] M = some (r1, M1)) (k2 : E_C 236 [192, d, told] M1 = some (r2, M2)) : r1 = r2 := by
  have s1 : E_C 125 [8, d, told] M = e_tv E_C (E_V 125) e_t125_0 [8, d, told, 0] M := r_ent (u := 125) (as := [8, d, told]) (M := M) (decide_eq_true c_this)
  have s2 : E_C 236 [192, d, told] M1 = e_tv E_C (E_V 236) e_t236_0 [192, d, told, 0] M1 := r_ent (u := 236) (as := [192, d, told]) (M := M1) (decide_eq_true r_ref)
  have no : ∀ z, z ≠ 0 → E_C 161 [8, d, told] M = some (z, M) → E_C 232 [192, d, told] M1 = some (z, M1) → r1 = r2 := fun z hz c1 c2 => by
    have a1 : E_C 125 [8, d, told] M = some (z, M) := by
      rw [s1]
      unfold e_t125_0
      simp [zq_a, zq_b, zq_c, zq_d, zq_e, zq_f, zq_g, zq_h, zq_i, zq_j, zq_k, zq_l, zq_m, zq_n, zq_o, zq_p, zq_q, zq_r, zq_s, zq_t, zq_u, zq_v, zq_w, zq_x, zq_y, zq_z, zq_A, zq_B, zq_C, zq_D, zq_E, zq_F, zq_G, zq_H, zq_I, zq_J, zq_K, zq_L, ↓zq_M, ↓zq_N, ↓zq_O, ↓zq_P, ↓zq_Q, ↓zq_R, zq_S, zq_T, zq_U, zq_V, zq_W, zq_X, zq_Y, zq_Z, zq_0, zq_1, zq_2, zq_3, zq_4, zq_5, ↓zq_6, ↓zq_7, ↓zq_8, ↓zq_9, ↓zq_aa, zq_ab, zq_ac, zq_ad, zq_ae, zq_af, zq_ag, ↓zq_ah, ↓zq_ai, ↓zq_aj, zq_ak, ↓zq_al, ↓zq_am, e_b1, e_b2, x_o1, x_o2, c1, hz]
    have a2 : E_C 236 [192, d, told] M1 = some (z, M1) := by
      rw [s2]
      unfold e_t236_0
      simp [zq_a, zq_b, zq_c, zq_d, zq_e, zq_f, zq_g, zq_h, zq_i, zq_j, zq_k, zq_l, zq_m, zq_n, zq_o, zq_p, zq_q, zq_r, zq_s, zq_t, zq_u, zq_v, zq_w, zq_x, zq_y, zq_z, zq_A, zq_B, zq_C, zq_D, zq_E, zq_F, zq_G, zq_H, zq_I, zq_J, zq_K, zq_L, ↓zq_M, ↓zq_N, ↓zq_O, ↓zq_P, ↓zq_Q, ↓zq_R, zq_S, zq_T, zq_U, zq_V, zq_W, zq_X, zq_Y, zq_Z, zq_0, zq_1, zq_2, zq_3, zq_4, zq_5, ↓zq_6, ↓zq_7, ↓zq_8, ↓zq_9, ↓zq_aa, zq_ab, zq_ac, zq_ad, zq_ae, zq_af, zq_ag, ↓zq_ah, ↓zq_ai, ↓zq_aj, zq_ak, ↓zq_al, ↓zq_am, e_b1, e_b2, x_o1, x_o2, c2, hz]
    rw [(Prod.mk.inj (Option.some.inj (k1.symm.trans a1))).1, (Prod.mk.inj (Option.some.inj (k2.symm.trans a2))).1]
  by_cases ht : 0 ≤ told ∧ told ≤ 209999
  · by_cases h : h_no M d 1 = 0
    · rcases fw_both hS hfr ht hJ h with ⟨c1, c2⟩ | ⟨m, n, G, M', K, hm, m8, hg, c1, v1, c2, c3, f3, v3⟩
      · exact no _ (by decide) c1 c2
      · have hp : 0 ≤ told.tmod 10000 := by
          rw [Int.tmod_eq_emod_of_nonneg ht.1]
          omega
        have e := (wh_two hp hg.1.2 v1 v3).1
        have t0 : E_C 146 [184, 0] M' = some (M' 184 0, M') := w_atN (a := 184) (n := 31) (by decide +kernel) (j := 0) rfl (by decide) M'
        have l1 : e_op 60 [207, 0] K = some (K 207 0) := r_rdA (a := 207) (i := 0) (n := 1023) (by decide) (by decide) (by decide +kernel) (by decide) (by decide)
        have a1 : E_C 125 [8, d, told] M = some (M' 184 0, M') := by
          rw [s1]
          unfold e_t125_0
          generalize M' 184 0 = w at *
          simp [zq_a, zq_b, zq_c, zq_d, zq_e, zq_f, zq_g, zq_h, zq_i, zq_j, zq_k, zq_l, zq_m, zq_n, zq_o, zq_p, zq_q, zq_r, zq_s, zq_t, zq_u, zq_v, zq_w, zq_x, zq_y, zq_z, zq_A, zq_B, zq_C, zq_D, zq_E, zq_F, zq_G, zq_H, zq_I, zq_J, zq_K, zq_L, ↓zq_M, ↓zq_N, ↓zq_O, ↓zq_P, ↓zq_Q, ↓zq_R, zq_S, zq_T, zq_U, zq_V, zq_W, zq_X, zq_Y, zq_Z, zq_0, zq_1, zq_2, zq_3, zq_4, zq_5, ↓zq_6, ↓zq_7, ↓zq_8, ↓zq_9, ↓zq_aa, zq_ab, zq_ac, zq_ad, zq_ae, zq_af, zq_ag, ↓zq_ah, ↓zq_ai, ↓zq_aj, zq_ak, ↓zq_al, ↓zq_am, e_b1, e_b2, x_o1, x_o2, ws_7, ws_G1, c1, t0]
        have a2 : E_C 236 [192, d, told] M1 = some (K 207 0, K) := by
          rw [s2]
          unfold e_t236_0
          generalize K 207 0 = w at *
          simp [zq_a, zq_b, zq_c, zq_d, zq_e, zq_f, zq_g, zq_h, zq_i, zq_j, zq_k, zq_l, zq_m, zq_n, zq_o, zq_p, zq_q, zq_r, zq_s, zq_t, zq_u, zq_v, zq_w, zq_x, zq_y, zq_z, zq_A, zq_B, zq_C, zq_D, zq_E, zq_F, zq_G, zq_H, zq_I, zq_J, zq_K, zq_L, ↓zq_M, ↓zq_N, ↓zq_O, ↓zq_P, ↓zq_Q, ↓zq_R, zq_S, zq_T, zq_U, zq_V, zq_W, zq_X, zq_Y, zq_Z, zq_0, zq_1, zq_2, zq_3, zq_4, zq_5, ↓zq_6, ↓zq_7, ↓zq_8, ↓zq_9, ↓zq_aa, zq_ab, zq_ac, zq_ad, zq_ae, zq_af, zq_ag, ↓zq_ah, ↓zq_ai, ↓zq_aj, zq_ak, ↓zq_al, ↓zq_am, e_b1, e_b2, x_o1, x_o2, r_O31, c2, c3, l1]
        rw [(Prod.mk.inj (Option.some.inj (k1.symm.trans a1))).1, (Prod.mk.inj (Option.some.inj (k2.symm.trans a2))).1, e]
    · have h1 : h_no M1 d 1 = h_no M d 1 := by
        unfold h_no
        rw [hfr _ _ (by decide), hfr _ _ (by decide)]
      have c2 := fw_232b (M := M1) ht (by rw [h1]; exact h)
      rw [h1] at c2
      exact no _ h (ax_161b hS ht h) c2
  · exact no _ (by decide) (ax_161a ht) (fw_232a hv ht)
theorem ax_washed (hS : h_S M) (hJ : r_J M) (hv : told ≤ 2147483647) (hfr : ∀ id i, 192 ≤ id → M1 id i = M id i) (k1 : E_C 126 [8, d, told, i] M = some (r1, M1)) (k2 : E_C 237 [192, d, told, i] M1 = some (r2, M2)) : r1 = r2 := by
  have s1 : E_C 126 [8, d, told, i] M = e_tv E_C (E_V 126) e_t126_0 [8, d, told, i, 0] M := r_ent (u := 126) (as := [8, d, told, i]) (M := M) (decide_eq_true c_this)
  have s2 : E_C 237 [192, d, told, i] M1 = e_tv E_C (E_V 237) e_t237_0 [192, d, told, i, 0, 0, 0, 0, 0] M1 := r_ent (u := 237) (as := [192, d, told, i]) (M := M1) (decide_eq_true r_ref)
  rcases x_lt i (-1) with ⟨ci, ci_n⟩ | ⟨ci, ci_n⟩
  · have a1 : E_C 126 [8, d, told, i] M = some (-1, M) := by
      rw [s1]
      unfold e_t126_0
      simp [zq_a, zq_b, zq_c, zq_d, zq_e, zq_f, zq_g, zq_h, zq_i, zq_j, zq_k, zq_l, zq_m, zq_n, zq_o, zq_p, zq_q, zq_r, zq_s, zq_t, zq_u, zq_v, zq_w, zq_x, zq_y, zq_z, zq_A, zq_B, zq_C, zq_D, zq_E, zq_F, zq_G, zq_H, zq_I, zq_J, zq_K, zq_L, ↓zq_M, ↓zq_N, ↓zq_O, ↓zq_P, ↓zq_Q, ↓zq_R, zq_S, zq_T, zq_U, zq_V, zq_W, zq_X, zq_Y, zq_Z, zq_0, zq_1, zq_2, zq_3, zq_4, zq_5, ↓zq_6, ↓zq_7, ↓zq_8, ↓zq_9, ↓zq_aa, zq_ab, zq_ac, zq_ad, zq_ae, zq_af, zq_ag, ↓zq_ah, ↓zq_ai, ↓zq_aj, zq_ak, ↓zq_al, ↓zq_am, e_b1, e_b2, x_o1, x_o2, ci, ci_n]
    have a2 : E_C 237 [192, d, told, i] M1 = some (-1, M1) := by
      rw [s2]
      unfold e_t237_0
      simp [zq_a, zq_b, zq_c, zq_d, zq_e, zq_f, zq_g, zq_h, zq_i, zq_j, zq_k, zq_l, zq_m, zq_n, zq_o, zq_p, zq_q, zq_r, zq_s, zq_t, zq_u, zq_v, zq_w, zq_x, zq_y, zq_z, zq_A, zq_B, zq_C, zq_D, zq_E, zq_F, zq_G, zq_H, zq_I, zq_J, zq_K, zq_L, ↓zq_M, ↓zq_N, ↓zq_O, ↓zq_P, ↓zq_Q, ↓zq_R, zq_S, zq_T, zq_U, zq_V, zq_W, zq_X, zq_Y, zq_Z, zq_0, zq_1, zq_2, zq_3, zq_4, zq_5, ↓zq_6, ↓zq_7, ↓zq_8, ↓zq_9, ↓zq_aa, zq_ab, zq_ac, zq_ad, zq_ae, zq_af, zq_ag, ↓zq_ah, ↓zq_ai, ↓zq_aj, zq_ak, ↓zq_al, ↓zq_am, e_b1, e_b2, x_o1, x_o2, ci, ci_n]
    rw [(Prod.mk.inj (Option.some.inj (k1.symm.trans a1))).1, (Prod.mk.inj (Option.some.inj (k2.symm.trans a2))).1]
  · have no : ∀ z, z ≠ 0 → E_C 161 [8, d, told] M = some (z, M) → E_C 232 [192, d, told] M1 = some (z, M1) → r1 = r2 := fun z hz c1 c2 => by
      have a1 : E_C 126 [8, d, told, i] M = some (z, M) := by
        rw [s1]
        unfold e_t126_0
        simp [zq_a, zq_b, zq_c, zq_d, zq_e, zq_f, zq_g, zq_h, zq_i, zq_j, zq_k, zq_l, zq_m, zq_n, zq_o, zq_p, zq_q, zq_r, zq_s, zq_t, zq_u, zq_v, zq_w, zq_x, zq_y, zq_z, zq_A, zq_B, zq_C, zq_D, zq_E, zq_F, zq_G, zq_H, zq_I, zq_J, zq_K, zq_L, ↓zq_M, ↓zq_N, ↓zq_O, ↓zq_P, ↓zq_Q, ↓zq_R, zq_S, zq_T, zq_U, zq_V, zq_W, zq_X, zq_Y, zq_Z, zq_0, zq_1, zq_2, zq_3, zq_4, zq_5, ↓zq_6, ↓zq_7, ↓zq_8, ↓zq_9, ↓zq_aa, zq_ab, zq_ac, zq_ad, zq_ae, zq_af, zq_ag, ↓zq_ah, ↓zq_ai, ↓zq_aj, zq_ak, ↓zq_al, ↓zq_am, e_b1, e_b2, x_o1, x_o2, ci, ci_n, c1, hz]
      have a2 : E_C 237 [192, d, told, i] M1 = some (z, M1) := by
        rw [s2]
        unfold e_t237_0
        simp [zq_a, zq_b, zq_c, zq_d, zq_e, zq_f, zq_g, zq_h, zq_i, zq_j, zq_k, zq_l, zq_m, zq_n, zq_o, zq_p, zq_q, zq_r, zq_s, zq_t, zq_u, zq_v, zq_w, zq_x, zq_y, zq_z, zq_A, zq_B, zq_C, zq_D, zq_E, zq_F, zq_G, zq_H, zq_I, zq_J, zq_K, zq_L, ↓zq_M, ↓zq_N, ↓zq_O, ↓zq_P, ↓zq_Q, ↓zq_R, zq_S, zq_T, zq_U, zq_V, zq_W, zq_X, zq_Y, zq_Z, zq_0, zq_1, zq_2, zq_3, zq_4, zq_5, ↓zq_6, ↓zq_7, ↓zq_8, ↓zq_9, ↓zq_aa, zq_ab, zq_ac, zq_ad, zq_ae, zq_af, zq_ag, ↓zq_ah, ↓zq_ai, ↓zq_aj, zq_ak, ↓zq_al, ↓zq_am, e_b1, e_b2, x_o1, x_o2, ci, ci_n, c2, hz]
      rw [(Prod.mk.inj (Option.some.inj (k1.symm.trans a1))).1, (Prod.mk.inj (Option.some.inj (k2.symm.trans a2))).1]
    by_cases ht : 0 ≤ told ∧ told ≤ 209999
    · by_cases h : h_no M d 1 = 0
      · rcases fw_both hS hfr ht hJ h with ⟨c1, c2⟩ | ⟨m, n, G, M', K, hm, m8, hg, c1, v1, c2, c3, f3, v3⟩
        · exact no _ (by decide) c1 c2
        · have hp : 0 ≤ told.tmod 10000 ∧ told.tmod 10000 ≤ 9999 := by
            rw [Int.tmod_eq_emod_of_nonneg ht.1]
            omega
          have hr : 0 ≤ told.tdiv 10000 ∧ told.tdiv 10000 ≤ 20 := by
            rw [Int.tdiv_eq_ediv_of_nonneg ht.1]
            omega
          obtain ⟨-, e, h0⟩ := wh_two hp.1 hg.1.2 v1 v3
          have k102 := ws_102 (i := i) hg.1.2 v1
          by_cases c : i = -1
          · subst c
            rw [if_pos (by decide)] at k102
            have l1 : e_op 60 [208, 0] K = some (K 208 0) := r_rdA (a := 208) (i := 0) (n := 1023) (by decide) (by decide) (by decide +kernel) (by decide) (by decide)
            have a1 : E_C 126 [8, d, told, -1] M = some (M' 185 0, M') := by
              rw [s1]
              unfold e_t126_0
              generalize M' 185 0 = w at *
              simp [zq_a, zq_b, zq_c, zq_d, zq_e, zq_f, zq_g, zq_h, zq_i, zq_j, zq_k, zq_l, zq_m, zq_n, zq_o, zq_p, zq_q, zq_r, zq_s, zq_t, zq_u, zq_v, zq_w, zq_x, zq_y, zq_z, zq_A, zq_B, zq_C, zq_D, zq_E, zq_F, zq_G, zq_H, zq_I, zq_J, zq_K, zq_L, ↓zq_M, ↓zq_N, ↓zq_O, ↓zq_P, ↓zq_Q, ↓zq_R, zq_S, zq_T, zq_U, zq_V, zq_W, zq_X, zq_Y, zq_Z, zq_0, zq_1, zq_2, zq_3, zq_4, zq_5, ↓zq_6, ↓zq_7, ↓zq_8, ↓zq_9, ↓zq_aa, zq_ab, zq_ac, zq_ad, zq_ae, zq_af, zq_ag, ↓zq_ah, ↓zq_ai, ↓zq_aj, zq_ak, ↓zq_al, ↓zq_am, e_b1, e_b2, x_o1, x_o2, ws_7, c1, k102]
            have a2 : E_C 237 [192, d, told, -1] M1 = some (K 208 0, K) := by
              rw [s2]
              unfold e_t237_0
              generalize K 208 0 = w at *
              simp [zq_a, zq_b, zq_c, zq_d, zq_e, zq_f, zq_g, zq_h, zq_i, zq_j, zq_k, zq_l, zq_m, zq_n, zq_o, zq_p, zq_q, zq_r, zq_s, zq_t, zq_u, zq_v, zq_w, zq_x, zq_y, zq_z, zq_A, zq_B, zq_C, zq_D, zq_E, zq_F, zq_G, zq_H, zq_I, zq_J, zq_K, zq_L, ↓zq_M, ↓zq_N, ↓zq_O, ↓zq_P, ↓zq_Q, ↓zq_R, zq_S, zq_T, zq_U, zq_V, zq_W, zq_X, zq_Y, zq_Z, zq_0, zq_1, zq_2, zq_3, zq_4, zq_5, ↓zq_6, ↓zq_7, ↓zq_8, ↓zq_9, ↓zq_aa, zq_ab, zq_ac, zq_ad, zq_ae, zq_af, zq_ag, ↓zq_ah, ↓zq_ai, ↓zq_aj, zq_ak, ↓zq_al, ↓zq_am, e_b1, e_b2, x_o1, x_o2, r_O32, c2, c3, l1]
            rw [(Prod.mk.inj (Option.some.inj (k1.symm.trans a1))).1, (Prod.mk.inj (Option.some.inj (k2.symm.trans a2))).1, e]
          · rw [if_neg (by omega)] at k102
            have i0 : 0 ≤ i := by omega
            -- the reference's first DAY
            obtain ⟨hn1, hn30⟩ := hg.1
            have b1 := v3.2.2 (0 + 1) (0 + 1) (Nat.zero_le _) hn1 (Nat.le_refl _)
            have b2 := v3.2.2 (0 + 1) 1 (Nat.zero_le _) hn1 (Nat.le_refl _)
            obtain ⟨z, kz, hz⟩ := fw_234 f3 m8 hg.1.2 hr hp hg.2 (k := 0) (s := 0) (kI := 0) (sI := 0) rfl rfl hn1 (Nat.le_refl _) (by omega) (by omega)
            have z0 : z = 0 := by
              rcases hz with ⟨-, P⟩ | ⟨hz, -⟩
              · exact absurd P (wh_no0 hp.1)
              · exact hz
            rw [z0] at kz
            obtain ⟨⟨n1, n2⟩, -⟩ := v1.1 0 (Nat.zero_le _) hn1
            have k52 := fw_52 (K := K) (told := told) (i := i) rfl f3 m8 hg.1.2 hr hp hg.2 v3 h0 v1.1 (mI := d) (x4 := 0) hm i0 (n - 1) 1 0 0 1 1 0 rfl (by omega) (by decide) n1 rfl (Int.le_refl _) i0 (by decide)
            rw [Int.sub_zero] at k52
            have ls := (r_isD d K ⟨by omega, by omega⟩).2.2.1
            rw [show d.toNat = m by omega, f3.2.2.2.1] at ls
            have qn : (0 : Int) < (n : Int) := by omega
            have k52' : E_V 237 52 [192, d, told, i, 0, 0, 0, 0, 0] K = E_V 237 52 [192, d, told, i, 0, 0, 1, 1, 0] K := by
              have w1 : e_w 1 = 1 := a_w_id (by decide) (by decide)
              have w0 : e_w 0 = 0 := a_w_id (by decide) (by decide)
              clear k52 v1 v3 f3 hz b1 b2
              generalize (n : Int) = nn at *
              rw [E_V_eq]
              show e_tv E_C (E_V 237) e_t237_52 [192, d, told, i, 0, 0, 0, 0, 0] K = _
              unfold e_t237_52
              simp [zq_a, zq_b, zq_c, zq_d, zq_e, zq_f, zq_g, zq_h, zq_i, zq_j, zq_k, zq_l, zq_m, zq_n, zq_o, zq_p, zq_q, zq_r, zq_s, zq_t, zq_u, zq_v, zq_w, zq_x, zq_y, zq_z, zq_A, zq_B, zq_C, zq_D, zq_E, zq_F, zq_G, zq_H, zq_I, zq_J, zq_K, zq_L, ↓zq_M, ↓zq_N, ↓zq_O, ↓zq_P, ↓zq_Q, ↓zq_R, zq_S, zq_T, zq_U, zq_V, zq_W, zq_X, zq_Y, zq_Z, zq_0, zq_1, zq_2, zq_3, zq_4, zq_5, ↓zq_6, ↓zq_7, ↓zq_8, ↓zq_9, ↓zq_aa, zq_ab, zq_ac, zq_ad, zq_ae, zq_af, zq_ag, ↓zq_ah, ↓zq_ai, ↓zq_aj, zq_ak, ↓zq_al, ↓zq_am, e_b1, e_b2, x_o1, x_o2, r_O4, ls, qn, kz, w0, w1]
            obtain ⟨z9, hz9⟩ : ∃ z9 : Int, (if i < M' 185 0 then (wh_r (fun u => (M' 186 u).toNat) i.toNat (M' 186 0).toNat : Int) else -4) = z9 := ⟨_, rfl⟩
            rw [hz9] at k102 k52
            have a1 : E_C 126 [8, d, told, i] M = some (z9, M') := by
              rw [s1]
              unfold e_t126_0
              simp [zq_a, zq_b, zq_c, zq_d, zq_e, zq_f, zq_g, zq_h, zq_i, zq_j, zq_k, zq_l, zq_m, zq_n, zq_o, zq_p, zq_q, zq_r, zq_s, zq_t, zq_u, zq_v, zq_w, zq_x, zq_y, zq_z, zq_A, zq_B, zq_C, zq_D, zq_E, zq_F, zq_G, zq_H, zq_I, zq_J, zq_K, zq_L, ↓zq_M, ↓zq_N, ↓zq_O, ↓zq_P, ↓zq_Q, ↓zq_R, zq_S, zq_T, zq_U, zq_V, zq_W, zq_X, zq_Y, zq_Z, zq_0, zq_1, zq_2, zq_3, zq_4, zq_5, ↓zq_6, ↓zq_7, ↓zq_8, ↓zq_9, ↓zq_aa, zq_ab, zq_ac, zq_ad, zq_ae, zq_af, zq_ag, ↓zq_ah, ↓zq_ai, ↓zq_aj, zq_ak, ↓zq_al, ↓zq_am, e_b1, e_b2, x_o1, x_o2, ws_7, ci, ci_n, c1, k102]
            have a2 : E_C 237 [192, d, told, i] M1 = some (z9, K) := by
              rw [s2]
              unfold e_t237_0
              simp [zq_a, zq_b, zq_c, zq_d, zq_e, zq_f, zq_g, zq_h, zq_i, zq_j, zq_k, zq_l, zq_m, zq_n, zq_o, zq_p, zq_q, zq_r, zq_s, zq_t, zq_u, zq_v, zq_w, zq_x, zq_y, zq_z, zq_A, zq_B, zq_C, zq_D, zq_E, zq_F, zq_G, zq_H, zq_I, zq_J, zq_K, zq_L, ↓zq_M, ↓zq_N, ↓zq_O, ↓zq_P, ↓zq_Q, ↓zq_R, zq_S, zq_T, zq_U, zq_V, zq_W, zq_X, zq_Y, zq_Z, zq_0, zq_1, zq_2, zq_3, zq_4, zq_5, ↓zq_6, ↓zq_7, ↓zq_8, ↓zq_9, ↓zq_aa, zq_ab, zq_ac, zq_ad, zq_ae, zq_af, zq_ag, ↓zq_ah, ↓zq_ai, ↓zq_aj, zq_ak, ↓zq_al, ↓zq_am, e_b1, e_b2, x_o1, x_o2, ci, ci_n, c2, c3, c, k52', k52]
            rw [(Prod.mk.inj (Option.some.inj (k1.symm.trans a1))).1, (Prod.mk.inj (Option.some.inj (k2.symm.trans a2))).1]
      · have h1 : h_no M1 d 1 = h_no M d 1 := by
          unfold h_no
          rw [hfr _ _ (by decide), hfr _ _ (by decide)]
        have c2 := fw_232b (M := M1) ht (by rw [h1]; exact h)
        rw [h1] at c2
        exact no _ h (ax_161b hS ht h) c2
    · exact no _ (by decide) (ax_161a ht) (fw_232a hv ht)
end FZ
