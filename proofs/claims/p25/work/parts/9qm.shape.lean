section
/-! the reference's first way through a TEXT: exactly -/
section YM
variable {b : Nat → Int} {n k : Nat} {M : EM}
theorem y_stmt (hB : y_B b n k M) (hA : w_A b k) (h2 : w_T b k 2 = 0) (h0 : k = n → ¬ 0 < w_T b n 7) : ∃ r M' k', E_C 183 [192] M = some (r, M') ∧ r_tt M M' ∧ y_B b n k' M' ∧ k ≤ k' ∧ w_A b k' ∧ ((r = 1 ∧ k < k' ∧ y_Ps b n k k') ∨ (r = 0 ∧ w_F b n k')) := by
  have ks := r_sign (y_ty hB)
  rw [y_sg hB] at ks
  have hkn := hB.2.2.1
  have h15 := hB.2.1
  have hn120 := hB.2.2.2.2.1
  by_cases q : k < n ∧ (b k = 99 ∨ b k = 114 ∨ b k = 102 ∨ b k = 98)
  · obtain ⟨q0, q1⟩ := q
    rw [y_sb q0] at ks
    obtain ⟨o1, o2⟩ := y_on hB q0
    obtain ⟨a1, a2, a3, a4, a5, a6, a7, a8⟩ := y_bgn hA h2 q1
    have w1 : e_w ((k : Int) + 1) = (k : Int) + 1 := by
      clear ks o1 o2
      exact a_w_id (by omega) (by omega)
    by_cases c1 : b k = 99
    · rw [c1] at ks a3
      obtain ⟨r, M2, k2, g2, tt2, B2, c1', c2, c3⟩ := y_point o2 a1 a2 a3 a4 a5
      rcases c3 with ⟨e, p1, p2, p3, p4, p5⟩ | ⟨e, c3⟩
      · subst e
        obtain ⟨r, M3, k3, g3, tt3, B3, d1, d2, d3⟩ := y_56 (x1 := 99) _ k2 M2 (Nat.le_refl _) B2 c2 p1 p2 p3 p4
        refine ⟨r, M3, k3, ?_, r_tt_tr o1 (r_tt_tr tt2 tt3), B3, by clear ks w1; omega, d2, ?_⟩
        · rw [r_ent (show e_rok 183 [192] = true from decide_eq_true r_ref)]
          show e_tv E_C (E_V 183) e_t183_0 [192, 0] M = _
          unfold e_t183_0
          simp [zq_a, zq_b, zq_c, zq_d, zq_e, zq_f, zq_g, zq_h, zq_i, zq_j, zq_k, zq_l, zq_m, zq_n, zq_o, zq_p, zq_q, zq_r, zq_s, zq_t, zq_u, zq_v, zq_w, zq_x, zq_y, zq_z, zq_A, zq_B, zq_C, zq_D, zq_E, zq_F, zq_G, zq_H, zq_I, zq_J, zq_K, zq_L, ↓zq_M, ↓zq_N, ↓zq_O, ↓zq_P, ↓zq_Q, ↓zq_R, zq_S, zq_T, zq_U, zq_V, zq_W, zq_X, zq_Y, zq_Z, zq_0, zq_1, zq_2, zq_3, zq_4, zq_5, ↓zq_6, ↓zq_7, ↓zq_8, ↓zq_9, ↓zq_aa, zq_ab, zq_ac, zq_ad, zq_ae, zq_af, zq_ag, ↓zq_ah, ↓zq_ai, ↓zq_aj, zq_ak, ↓zq_al, ↓zq_am, e_b1, e_b2, x_o1, x_o2, r_F15, r_P15, ks, h15, w1, g2, g3]
        · rcases d3 with ⟨e, d3, d4⟩ | ⟨e, d3⟩
          · exact Or.inl ⟨e, by clear ks w1; omega, d3, by clear ks w1; omega⟩
          · exact Or.inr ⟨e, y_F d3⟩
      · subst e
        refine ⟨0, M2, k2, ?_, r_tt_tr o1 tt2, B2, by clear ks w1; omega, c2, Or.inr ⟨rfl, y_F c3⟩⟩
        rw [r_ent (show e_rok 183 [192] = true from decide_eq_true r_ref)]
        show e_tv E_C (E_V 183) e_t183_0 [192, 0] M = _
        unfold e_t183_0
        simp [zq_a, zq_b, zq_c, zq_d, zq_e, zq_f, zq_g, zq_h, zq_i, zq_j, zq_k, zq_l, zq_m, zq_n, zq_o, zq_p, zq_q, zq_r, zq_s, zq_t, zq_u, zq_v, zq_w, zq_x, zq_y, zq_z, zq_A, zq_B, zq_C, zq_D, zq_E, zq_F, zq_G, zq_H, zq_I, zq_J, zq_K, zq_L, ↓zq_M, ↓zq_N, ↓zq_O, ↓zq_P, ↓zq_Q, ↓zq_R, zq_S, zq_T, zq_U, zq_V, zq_W, zq_X, zq_Y, zq_Z, zq_0, zq_1, zq_2, zq_3, zq_4, zq_5, ↓zq_6, ↓zq_7, ↓zq_8, ↓zq_9, ↓zq_aa, zq_ab, zq_ac, zq_ad, zq_ae, zq_af, zq_ag, ↓zq_ah, ↓zq_ai, ↓zq_aj, zq_ak, ↓zq_al, ↓zq_am, e_b1, e_b2, x_o1, x_o2, r_F15, r_P15, ks, h15, w1, g2]
    by_cases c2 : b k = 114
    · rw [c2] at ks a3
      obtain ⟨r, M2, k2, g2, tt2, B2, c1', c2, c3⟩ := y_item o2 a1 a2 a3 a5
      rcases c3 with ⟨e, p1, p2, p3, p4⟩ | ⟨e, c3⟩
      · subst e
        obtain ⟨r, M3, k3, g3, tt3, B3, d1, d2, d3⟩ := y_89 (x1 := 114) _ k2 M2 (Nat.le_refl _) B2 c2 p1 p2 p3
        refine ⟨r, M3, k3, ?_, r_tt_tr o1 (r_tt_tr tt2 tt3), B3, by clear ks w1; omega, d2, ?_⟩
        · rw [r_ent (show e_rok 183 [192] = true from decide_eq_true r_ref)]
          show e_tv E_C (E_V 183) e_t183_0 [192, 0] M = _
          unfold e_t183_0
          simp [zq_a, zq_b, zq_c, zq_d, zq_e, zq_f, zq_g, zq_h, zq_i, zq_j, zq_k, zq_l, zq_m, zq_n, zq_o, zq_p, zq_q, zq_r, zq_s, zq_t, zq_u, zq_v, zq_w, zq_x, zq_y, zq_z, zq_A, zq_B, zq_C, zq_D, zq_E, zq_F, zq_G, zq_H, zq_I, zq_J, zq_K, zq_L, ↓zq_M, ↓zq_N, ↓zq_O, ↓zq_P, ↓zq_Q, ↓zq_R, zq_S, zq_T, zq_U, zq_V, zq_W, zq_X, zq_Y, zq_Z, zq_0, zq_1, zq_2, zq_3, zq_4, zq_5, ↓zq_6, ↓zq_7, ↓zq_8, ↓zq_9, ↓zq_aa, zq_ab, zq_ac, zq_ad, zq_ae, zq_af, zq_ag, ↓zq_ah, ↓zq_ai, ↓zq_aj, zq_ak, ↓zq_al, ↓zq_am, e_b1, e_b2, x_o1, x_o2, r_F15, r_P15, ks, h15, w1, g2, g3]
        · rcases d3 with ⟨e, d3, d4⟩ | ⟨e, d3⟩
          · exact Or.inl ⟨e, by clear ks w1; omega, d3, by clear ks w1; omega⟩
          · exact Or.inr ⟨e, y_F d3⟩
      · subst e
        refine ⟨0, M2, k2, ?_, r_tt_tr o1 tt2, B2, by clear ks w1; omega, c2, Or.inr ⟨rfl, y_F c3⟩⟩
        rw [r_ent (show e_rok 183 [192] = true from decide_eq_true r_ref)]
        show e_tv E_C (E_V 183) e_t183_0 [192, 0] M = _
        unfold e_t183_0
        simp [zq_a, zq_b, zq_c, zq_d, zq_e, zq_f, zq_g, zq_h, zq_i, zq_j, zq_k, zq_l, zq_m, zq_n, zq_o, zq_p, zq_q, zq_r, zq_s, zq_t, zq_u, zq_v, zq_w, zq_x, zq_y, zq_z, zq_A, zq_B, zq_C, zq_D, zq_E, zq_F, zq_G, zq_H, zq_I, zq_J, zq_K, zq_L, ↓zq_M, ↓zq_N, ↓zq_O, ↓zq_P, ↓zq_Q, ↓zq_R, zq_S, zq_T, zq_U, zq_V, zq_W, zq_X, zq_Y, zq_Z, zq_0, zq_1, zq_2, zq_3, zq_4, zq_5, ↓zq_6, ↓zq_7, ↓zq_8, ↓zq_9, ↓zq_aa, zq_ab, zq_ac, zq_ad, zq_ae, zq_af, zq_ag, ↓zq_ah, ↓zq_ai, ↓zq_aj, zq_ak, ↓zq_al, ↓zq_am, e_b1, e_b2, x_o1, x_o2, r_F15, r_P15, ks, h15, w1, g2]
    have s130 : ∀ x M, E_V 183 130 [192, x] M = some (0, M) := by
      intro x M
      rw [E_V_eq]
      show e_tv E_C (E_V 183) e_t183_130 [192, x] M = _
      unfold e_t183_130
      simp [zq_a, zq_b, zq_c, zq_d, zq_e, zq_f, zq_g, zq_h, zq_i, zq_j, zq_k, zq_l, zq_m, zq_n, zq_o, zq_p, zq_q, zq_r, zq_s, zq_t, zq_u, zq_v, zq_w, zq_x, zq_y, zq_z, zq_A, zq_B, zq_C, zq_D, zq_E, zq_F, zq_G, zq_H, zq_I, zq_J, zq_K, zq_L, ↓zq_M, ↓zq_N, ↓zq_O, ↓zq_P, ↓zq_Q, ↓zq_R, zq_S, zq_T, zq_U, zq_V, zq_W, zq_X, zq_Y, zq_Z, zq_0, zq_1, zq_2, zq_3, zq_4, zq_5, ↓zq_6, ↓zq_7, ↓zq_8, ↓zq_9, ↓zq_aa, zq_ab, zq_ac, zq_ad, zq_ae, zq_af, zq_ag, ↓zq_ah, ↓zq_ai, ↓zq_aj, zq_ak, ↓zq_al, ↓zq_am, e_b1, e_b2, x_o1, x_o2]
    by_cases c3 : b k = 102
    · rw [c3] at ks a3
      obtain ⟨r, M2, k2, g2, tt2, B2, c1', c2, c3⟩ := y_nums o2 a1 a2 (Or.inl a3)
      rcases c3 with ⟨e, p1, p2, p3, p4, p5⟩ | ⟨e, c3⟩
      · subst e
        obtain ⟨r, M3, k3, g3, tt3, B3, d1, d2, d3⟩ := y_132 (x1 := 102) B2 c2 p1 (p4.trans a5) (fun e => by rw [p3, a3] at e; exact absurd e.1 (by decide)) (Or.inr p2)
        refine ⟨r, M3, k3, ?_, r_tt_tr o1 (r_tt_tr tt2 tt3), B3, by clear ks w1; omega, d2, ?_⟩
        · rw [r_ent (show e_rok 183 [192] = true from decide_eq_true r_ref)]
          show e_tv E_C (E_V 183) e_t183_0 [192, 0] M = _
          unfold e_t183_0
          simp [zq_a, zq_b, zq_c, zq_d, zq_e, zq_f, zq_g, zq_h, zq_i, zq_j, zq_k, zq_l, zq_m, zq_n, zq_o, zq_p, zq_q, zq_r, zq_s, zq_t, zq_u, zq_v, zq_w, zq_x, zq_y, zq_z, zq_A, zq_B, zq_C, zq_D, zq_E, zq_F, zq_G, zq_H, zq_I, zq_J, zq_K, zq_L, ↓zq_M, ↓zq_N, ↓zq_O, ↓zq_P, ↓zq_Q, ↓zq_R, zq_S, zq_T, zq_U, zq_V, zq_W, zq_X, zq_Y, zq_Z, zq_0, zq_1, zq_2, zq_3, zq_4, zq_5, ↓zq_6, ↓zq_7, ↓zq_8, ↓zq_9, ↓zq_aa, zq_ab, zq_ac, zq_ad, zq_ae, zq_af, zq_ag, ↓zq_ah, ↓zq_ai, ↓zq_aj, zq_ak, ↓zq_al, ↓zq_am, e_b1, e_b2, x_o1, x_o2, r_F15, r_P15, ks, h15, w1, g2, g3]
        · rcases d3 with ⟨e, d3, d4⟩ | ⟨e, d3⟩
          · exact Or.inl ⟨e, by clear ks w1; omega, d3, by clear ks w1; omega⟩
          · exact Or.inr ⟨e, y_F d3⟩
      · subst e
        refine ⟨0, M2, k2, ?_, r_tt_tr o1 tt2, B2, by clear ks w1; omega, c2, Or.inr ⟨rfl, y_F c3⟩⟩
        rw [r_ent (show e_rok 183 [192] = true from decide_eq_true r_ref)]
        show e_tv E_C (E_V 183) e_t183_0 [192, 0] M = _
        unfold e_t183_0
        simp [zq_a, zq_b, zq_c, zq_d, zq_e, zq_f, zq_g, zq_h, zq_i, zq_j, zq_k, zq_l, zq_m, zq_n, zq_o, zq_p, zq_q, zq_r, zq_s, zq_t, zq_u, zq_v, zq_w, zq_x, zq_y, zq_z, zq_A, zq_B, zq_C, zq_D, zq_E, zq_F, zq_G, zq_H, zq_I, zq_J, zq_K, zq_L, ↓zq_M, ↓zq_N, ↓zq_O, ↓zq_P, ↓zq_Q, ↓zq_R, zq_S, zq_T, zq_U, zq_V, zq_W, zq_X, zq_Y, zq_Z, zq_0, zq_1, zq_2, zq_3, zq_4, zq_5, ↓zq_6, ↓zq_7, ↓zq_8, ↓zq_9, ↓zq_aa, zq_ab, zq_ac, zq_ad, zq_ae, zq_af, zq_ag, ↓zq_ah, ↓zq_ai, ↓zq_aj, zq_ak, ↓zq_al, ↓zq_am, e_b1, e_b2, x_o1, x_o2, r_F15, r_P15, ks, h15, w1, g2, s130]
    · have c4 : b k = 98 := by
        clear ks w1
        omega
      rw [c4] at ks a3
      obtain ⟨n1, n2⟩ := y_num o2 a1 a2
      by_cases d : k + 1 < n ∧ 48 ≤ b (k + 1) ∧ b (k + 1) ≤ 57
      · obtain ⟨k2, M2, g2, tt2, B2, ⟨z1, z2, z3, z4, z5, z6, z7, z8, z9, z10, z11⟩, -⟩ := n2 d
        obtain ⟨r, M3, k3, g3, tt3, B3, d1, d2, d3⟩ := y_132 (x1 := 98) B2 z4 z5 (z8.trans a5) (fun e => by rw [z6, a3] at e; exact absurd e.1 (by decide)) (Or.inl (z6.trans a3))
        refine ⟨r, M3, k3, ?_, r_tt_tr o1 (r_tt_tr tt2 tt3), B3, by clear ks w1; omega, d2, ?_⟩
        · rw [r_ent (show e_rok 183 [192] = true from decide_eq_true r_ref)]
          show e_tv E_C (E_V 183) e_t183_0 [192, 0] M = _
          unfold e_t183_0
          simp [zq_a, zq_b, zq_c, zq_d, zq_e, zq_f, zq_g, zq_h, zq_i, zq_j, zq_k, zq_l, zq_m, zq_n, zq_o, zq_p, zq_q, zq_r, zq_s, zq_t, zq_u, zq_v, zq_w, zq_x, zq_y, zq_z, zq_A, zq_B, zq_C, zq_D, zq_E, zq_F, zq_G, zq_H, zq_I, zq_J, zq_K, zq_L, ↓zq_M, ↓zq_N, ↓zq_O, ↓zq_P, ↓zq_Q, ↓zq_R, zq_S, zq_T, zq_U, zq_V, zq_W, zq_X, zq_Y, zq_Z, zq_0, zq_1, zq_2, zq_3, zq_4, zq_5, ↓zq_6, ↓zq_7, ↓zq_8, ↓zq_9, ↓zq_aa, zq_ab, zq_ac, zq_ad, zq_ae, zq_af, zq_ag, ↓zq_ah, ↓zq_ai, ↓zq_aj, zq_ak, ↓zq_al, ↓zq_am, e_b1, e_b2, x_o1, x_o2, r_F15, r_P15, ks, h15, w1, g2, g3]
        · rcases d3 with ⟨e, d3, d4⟩ | ⟨e, d3⟩
          · exact Or.inl ⟨e, by clear ks w1; omega, d3, by clear ks w1; omega⟩
          · exact Or.inr ⟨e, y_F d3⟩
      · have g2 := n1 d
        refine ⟨0, _, k + 1, ?_, o1, o2, by clear ks w1; omega, a1, Or.inr ⟨rfl, y_F (y_bad1 a1 o2.2.2.1 a2 d (fun _ e => by rw [a3] at e; exact absurd e.2.1 (by decide)))⟩⟩
        rw [r_ent (show e_rok 183 [192] = true from decide_eq_true r_ref)]
        show e_tv E_C (E_V 183) e_t183_0 [192, 0] M = _
        unfold e_t183_0
        simp [zq_a, zq_b, zq_c, zq_d, zq_e, zq_f, zq_g, zq_h, zq_i, zq_j, zq_k, zq_l, zq_m, zq_n, zq_o, zq_p, zq_q, zq_r, zq_s, zq_t, zq_u, zq_v, zq_w, zq_x, zq_y, zq_z, zq_A, zq_B, zq_C, zq_D, zq_E, zq_F, zq_G, zq_H, zq_I, zq_J, zq_K, zq_L, ↓zq_M, ↓zq_N, ↓zq_O, ↓zq_P, ↓zq_Q, ↓zq_R, zq_S, zq_T, zq_U, zq_V, zq_W, zq_X, zq_Y, zq_Z, zq_0, zq_1, zq_2, zq_3, zq_4, zq_5, ↓zq_6, ↓zq_7, ↓zq_8, ↓zq_9, ↓zq_aa, zq_ab, zq_ac, zq_ad, zq_ae, zq_af, zq_ag, ↓zq_ah, ↓zq_ai, ↓zq_aj, zq_ak, ↓zq_al, ↓zq_am, e_b1, e_b2, x_o1, x_o2, r_F15, r_P15, ks, h15, w1, g2, s130]
  · refine ⟨0, M, k, ?_, r_tt_rf hB.1, hB, Nat.le_refl _, hA, Or.inr ⟨rfl, hA, hkn, fun hl ok => ?_, fun e z => h0 e z.2⟩⟩
    · have c1 : y_s b n k ≠ 99 := fun e => q ⟨(y_lt e (by decide)).1, Or.inl (y_lt e (by decide)).2⟩
      have c2 : y_s b n k ≠ 114 := fun e => q ⟨(y_lt e (by decide)).1, Or.inr (Or.inl (y_lt e (by decide)).2)⟩
      have c3 : y_s b n k ≠ 102 := fun e => q ⟨(y_lt e (by decide)).1, Or.inr (Or.inr (Or.inl (y_lt e (by decide)).2))⟩
      have c4 : y_s b n k ≠ 98 := fun e => q ⟨(y_lt e (by decide)).1, Or.inr (Or.inr (Or.inr (y_lt e (by decide)).2))⟩
      rw [r_ent (show e_rok 183 [192] = true from decide_eq_true r_ref)]
      show e_tv E_C (E_V 183) e_t183_0 [192, 0] M = _
      unfold e_t183_0
      simp [zq_a, zq_b, zq_c, zq_d, zq_e, zq_f, zq_g, zq_h, zq_i, zq_j, zq_k, zq_l, zq_m, zq_n, zq_o, zq_p, zq_q, zq_r, zq_s, zq_t, zq_u, zq_v, zq_w, zq_x, zq_y, zq_z, zq_A, zq_B, zq_C, zq_D, zq_E, zq_F, zq_G, zq_H, zq_I, zq_J, zq_K, zq_L, ↓zq_M, ↓zq_N, ↓zq_O, ↓zq_P, ↓zq_Q, ↓zq_R, zq_S, zq_T, zq_U, zq_V, zq_W, zq_X, zq_Y, zq_Z, zq_0, zq_1, zq_2, zq_3, zq_4, zq_5, ↓zq_6, ↓zq_7, ↓zq_8, ↓zq_9, ↓zq_aa, zq_ab, zq_ac, zq_ad, zq_ae, zq_af, zq_ag, ↓zq_ah, ↓zq_ai, ↓zq_aj, zq_ak, ↓zq_al, ↓zq_am, e_b1, e_b2, x_o1, x_o2, ks, c1, c2, c3, c4]
    · unfold w_ok at ok
      rw [if_pos h2] at ok
      exact q ⟨hl, ok⟩
/-- STATEMENTS one by one, to the end -/
theorem y_36 {d x3 x4 : Int} : ∀ (m k : Nat) (M : EM), n - k ≤ m → y_B b n k M → w_A b k → w_T b k 2 = 0 → (k = n → ¬ 0 < w_T b n 7) → ∃ M', r_tt M M' ∧ ((∃ k', w_F b n k' ∧ E_V 190 36 [192, d, 0, x3, x4] M = some (-1000 - (k' : Int), M')) ∨ (w_A b n ∧ w_T b n 2 = 0 ∧ 0 < w_T b n 7 ∧ y_B b n n M' ∧ E_V 190 36 [192, d, 0, x3, x4] M = E_V 190 65 [192, d, 0, 0, x4] M')) := by
  intro m
  induction m with
  | zero =>
    intro k M hm hB hA h2 h0
    obtain ⟨r, M1, k1, g1, t1, B1, c1, c2, c3⟩ := y_stmt hB hA h2 h0
    rcases c3 with ⟨e, c3, -⟩ | ⟨e, c3⟩
    · have := B1.2.2.1
      omega
    · subst e
      refine ⟨M1, t1, Or.inl ⟨k1, c3, ?_⟩⟩
      have h15 := B1.2.1
      have w1 : e_w (-1000 - (k1 : Int)) = -1000 - (k1 : Int) := by
        have := B1.2.2.1
        have := B1.2.2.2.2.1
        exact a_w_id (by omega) (by omega)
      rw [E_V_eq]
      show e_tv E_C (E_V 190) e_t190_36 [192, d, 0, x3, x4] M = _
      unfold e_t190_36
      simp [zq_a, zq_b, zq_c, zq_d, zq_e, zq_f, zq_g, zq_h, zq_i, zq_j, zq_k, zq_l, zq_m, zq_n, zq_o, zq_p, zq_q, zq_r, zq_s, zq_t, zq_u, zq_v, zq_w, zq_x, zq_y, zq_z, zq_A, zq_B, zq_C, zq_D, zq_E, zq_F, zq_G, zq_H, zq_I, zq_J, zq_K, zq_L, ↓zq_M, ↓zq_N, ↓zq_O, ↓zq_P, ↓zq_Q, ↓zq_R, zq_S, zq_T, zq_U, zq_V, zq_W, zq_X, zq_Y, zq_Z, zq_0, zq_1, zq_2, zq_3, zq_4, zq_5, ↓zq_6, ↓zq_7, ↓zq_8, ↓zq_9, ↓zq_aa, zq_ab, zq_ac, zq_ad, zq_ae, zq_af, zq_ag, ↓zq_ah, ↓zq_ai, ↓zq_aj, zq_ak, ↓zq_al, ↓zq_am, e_b1, e_b2, x_o1, x_o2, r_F15, g1, h15, w1]
  | succ m ih =>
    intro k M hm hB hA h2 h0
    obtain ⟨r, M1, k1, g1, t1, B1, c1, c2, c3⟩ := y_stmt hB hA h2 h0
    have h15 := B1.2.1
    have h17 := B1.2.2.2.1
    have hk1 := B1.2.2.1
    rcases c3 with ⟨e, c3, c4, c5⟩ | ⟨e, c3⟩
    · subst e
      have p7 : 0 < w_T b k1 7 := by
        have := w_Ii hA
        unfold w_I at this
        omega
      by_cases q : k1 = n
      · subst q
        refine ⟨M1, t1, Or.inr ⟨c2, c4, p7, B1, ?_⟩⟩
        rw [E_V_eq]
        show e_tv E_C (E_V 190) e_t190_36 [192, d, 0, x3, x4] M = _
        unfold e_t190_36
        simp [zq_a, zq_b, zq_c, zq_d, zq_e, zq_f, zq_g, zq_h, zq_i, zq_j, zq_k, zq_l, zq_m, zq_n, zq_o, zq_p, zq_q, zq_r, zq_s, zq_t, zq_u, zq_v, zq_w, zq_x, zq_y, zq_z, zq_A, zq_B, zq_C, zq_D, zq_E, zq_F, zq_G, zq_H, zq_I, zq_J, zq_K, zq_L, ↓zq_M, ↓zq_N, ↓zq_O, ↓zq_P, ↓zq_Q, ↓zq_R, zq_S, zq_T, zq_U, zq_V, zq_W, zq_X, zq_Y, zq_Z, zq_0, zq_1, zq_2, zq_3, zq_4, zq_5, ↓zq_6, ↓zq_7, ↓zq_8, ↓zq_9, ↓zq_aa, zq_ab, zq_ac, zq_ad, zq_ae, zq_af, zq_ag, ↓zq_ah, ↓zq_ai, ↓zq_aj, zq_ak, ↓zq_al, ↓zq_am, e_b1, e_b2, x_o1, x_o2, r_F15, r_F17, g1, h15, h17]
      · obtain ⟨M', t2, h⟩ := ih k1 M1 (by omega) B1 c2 c4 (fun e => absurd e q)
        have q1 : ¬ (n ≤ k1) := by omega
        have e1 : E_V 190 36 [192, d, 0, x3, x4] M = E_V 190 36 [192, d, 0, x3, x4] M1 := by
          rw [E_V_eq]
          show e_tv E_C (E_V 190) e_t190_36 [192, d, 0, x3, x4] M = _
          unfold e_t190_36
          simp [zq_a, zq_b, zq_c, zq_d, zq_e, zq_f, zq_g, zq_h, zq_i, zq_j, zq_k, zq_l, zq_m, zq_n, zq_o, zq_p, zq_q, zq_r, zq_s, zq_t, zq_u, zq_v, zq_w, zq_x, zq_y, zq_z, zq_A, zq_B, zq_C, zq_D, zq_E, zq_F, zq_G, zq_H, zq_I, zq_J, zq_K, zq_L, ↓zq_M, ↓zq_N, ↓zq_O, ↓zq_P, ↓zq_Q, ↓zq_R, zq_S, zq_T, zq_U, zq_V, zq_W, zq_X, zq_Y, zq_Z, zq_0, zq_1, zq_2, zq_3, zq_4, zq_5, ↓zq_6, ↓zq_7, ↓zq_8, ↓zq_9, ↓zq_aa, zq_ab, zq_ac, zq_ad, zq_ae, zq_af, zq_ag, ↓zq_ah, ↓zq_ai, ↓zq_aj, zq_ak, ↓zq_al, ↓zq_am, e_b1, e_b2, x_o1, x_o2, r_F15, r_F17, g1, h15, h17, q1]
        refine ⟨M', r_tt_tr t1 t2, ?_⟩
        rw [e1]
        exact h
    · subst e
      refine ⟨M1, t1, Or.inl ⟨k1, c3, ?_⟩⟩
      have w1 : e_w (-1000 - (k1 : Int)) = -1000 - (k1 : Int) := by
        have := B1.2.2.2.2.1
        exact a_w_id (by omega) (by omega)
      rw [E_V_eq]
      show e_tv E_C (E_V 190) e_t190_36 [192, d, 0, x3, x4] M = _
      unfold e_t190_36
      simp [zq_a, zq_b, zq_c, zq_d, zq_e, zq_f, zq_g, zq_h, zq_i, zq_j, zq_k, zq_l, zq_m, zq_n, zq_o, zq_p, zq_q, zq_r, zq_s, zq_t, zq_u, zq_v, zq_w, zq_x, zq_y, zq_z, zq_A, zq_B, zq_C, zq_D, zq_E, zq_F, zq_G, zq_H, zq_I, zq_J, zq_K, zq_L, ↓zq_M, ↓zq_N, ↓zq_O, ↓zq_P, ↓zq_Q, ↓zq_R, zq_S, zq_T, zq_U, zq_V, zq_W, zq_X, zq_Y, zq_Z, zq_0, zq_1, zq_2, zq_3, zq_4, zq_5, ↓zq_6, ↓zq_7, ↓zq_8, ↓zq_9, ↓zq_aa, zq_ab, zq_ac, zq_ad, zq_ae, zq_af, zq_ag, ↓zq_ah, ↓zq_ai, ↓zq_aj, zq_ak, ↓zq_al, ↓zq_am, e_b1, e_b2, x_o1, x_o2, r_F15, g1, h15, w1]
end YM
end
section
/-! the reference makes a FIELD or a BOX: exactly -/
def y_K (ks kd : Int) : Int := e_bit (fun x y => x &&& y) (e_bit (fun x y => x >>> (y &&& 31)) ks kd) 1
theorem y_may {q p ks : Int} {M : EM} (hq : 0 ≤ q) (hp : p ≤ 40) : (q < p ∧ y_K ks (r_G M (28 * q)) = 1 ∧ r_G M (28 * q + 1) = 0 → E_C 185 [192, q, p, ks] M = some (1, M)) ∧ (¬ (q < p ∧ y_K ks (r_G M (28 * q)) = 1 ∧ r_G M (28 * q + 1) = 0) → E_C 185 [192, q, p, ks] M = some (0, M)) := by
  rcases x_lt q p with ⟨c0, c0_n⟩ | ⟨c0, c0_n⟩
  · have kk : E_C 170 [192, q] M = some (r_G M (28 * q), M) := r_kind ⟨hq, by omega⟩
    have w1 : e_w (28 * q) = 28 * q := a_w_id (by omega) (by omega)
    have w2 : e_w (28 * q + 1) = 28 * q + 1 := a_w_id (by omega) (by omega)
    have l1 : e_op 60 [193, 28 * q + 1] M = some (r_G M (28 * q + 1)) := r_rd (by omega) (by omega)
    obtain ⟨z, hz⟩ : ∃ z, z = y_K ks (r_G M (28 * q)) := ⟨_, rfl⟩
    have hz' : e_bit (fun x y => x &&& y) (e_bit (fun x y => x >>> (y &&& 31)) ks (r_G M (28 * q))) 1 = z := hz.symm
    rw [← hz]
    clear hz
    by_cases c1 : z = 1
    · by_cases c2 : r_G M (28 * q + 1) = 0
      · refine ⟨fun _ => ?_, fun h => absurd ⟨c0, c1, c2⟩ h⟩
        rw [r_ent (show e_rok 185 [192, q, p, ks] = true from decide_eq_true r_ref)]
        show e_tv E_C (E_V 185) e_t185_0 [192, q, p, ks, 0] M = _
        unfold e_t185_0
        simp [zq_a, zq_b, zq_c, zq_d, zq_e, zq_f, zq_g, zq_h, zq_i, zq_j, zq_k, zq_l, zq_m, zq_n, zq_o, zq_p, zq_q, zq_r, zq_s, zq_t, zq_u, zq_v, zq_w, zq_x, zq_y, zq_z, zq_A, zq_B, zq_C, zq_D, zq_E, zq_F, zq_G, zq_H, zq_I, zq_J, zq_K, zq_L, ↓zq_M, ↓zq_N, ↓zq_O, ↓zq_P, ↓zq_Q, ↓zq_R, zq_S, zq_T, zq_U, zq_V, zq_W, zq_X, zq_Y, zq_Z, zq_0, zq_1, zq_2, zq_3, zq_4, zq_5, ↓zq_6, ↓zq_7, ↓zq_8, ↓zq_9, ↓zq_aa, zq_ab, zq_ac, zq_ad, zq_ae, zq_af, zq_ag, ↓zq_ah, ↓zq_ai, ↓zq_aj, zq_ak, ↓zq_al, ↓zq_am, e_b1, e_b2, x_o1, x_o2, r_O0, c0, c0_n, kk, hz', c1, w1, w2, l1, c2]
      · refine ⟨fun h => absurd h.2.2 c2, fun _ => ?_⟩
        rw [r_ent (show e_rok 185 [192, q, p, ks] = true from decide_eq_true r_ref)]
        show e_tv E_C (E_V 185) e_t185_0 [192, q, p, ks, 0] M = _
        unfold e_t185_0
        simp [zq_a, zq_b, zq_c, zq_d, zq_e, zq_f, zq_g, zq_h, zq_i, zq_j, zq_k, zq_l, zq_m, zq_n, zq_o, zq_p, zq_q, zq_r, zq_s, zq_t, zq_u, zq_v, zq_w, zq_x, zq_y, zq_z, zq_A, zq_B, zq_C, zq_D, zq_E, zq_F, zq_G, zq_H, zq_I, zq_J, zq_K, zq_L, ↓zq_M, ↓zq_N, ↓zq_O, ↓zq_P, ↓zq_Q, ↓zq_R, zq_S, zq_T, zq_U, zq_V, zq_W, zq_X, zq_Y, zq_Z, zq_0, zq_1, zq_2, zq_3, zq_4, zq_5, ↓zq_6, ↓zq_7, ↓zq_8, ↓zq_9, ↓zq_aa, zq_ab, zq_ac, zq_ad, zq_ae, zq_af, zq_ag, ↓zq_ah, ↓zq_ai, ↓zq_aj, zq_ak, ↓zq_al, ↓zq_am, e_b1, e_b2, x_o1, x_o2, r_O0, c0, c0_n, kk, hz', c1, w1, w2, l1, c2]
    · refine ⟨fun h => absurd h.2.1 c1, fun _ => ?_⟩
      rw [r_ent (show e_rok 185 [192, q, p, ks] = true from decide_eq_true r_ref)]
      show e_tv E_C (E_V 185) e_t185_0 [192, q, p, ks, 0] M = _
      unfold e_t185_0
      simp [zq_a, zq_b, zq_c, zq_d, zq_e, zq_f, zq_g, zq_h, zq_i, zq_j, zq_k, zq_l, zq_m, zq_n, zq_o, zq_p, zq_q, zq_r, zq_s, zq_t, zq_u, zq_v, zq_w, zq_x, zq_y, zq_z, zq_A, zq_B, zq_C, zq_D, zq_E, zq_F, zq_G, zq_H, zq_I, zq_J, zq_K, zq_L, ↓zq_M, ↓zq_N, ↓zq_O, ↓zq_P, ↓zq_Q, ↓zq_R, zq_S, zq_T, zq_U, zq_V, zq_W, zq_X, zq_Y, zq_Z, zq_0, zq_1, zq_2, zq_3, zq_4, zq_5, ↓zq_6, ↓zq_7, ↓zq_8, ↓zq_9, ↓zq_aa, zq_ab, zq_ac, zq_ad, zq_ae, zq_af, zq_ag, ↓zq_ah, ↓zq_ai, ↓zq_aj, zq_ak, ↓zq_al, ↓zq_am, e_b1, e_b2, x_o1, x_o2, r_O0, c0, c0_n, kk, hz', c1]
  · refine ⟨fun h => absurd h.1 c0, fun _ => ?_⟩
    rw [r_ent (show e_rok 185 [192, q, p, ks] = true from decide_eq_true r_ref)]
    show e_tv E_C (E_V 185) e_t185_0 [192, q, p, ks, 0] M = _
    unfold e_t185_0
    simp [zq_a, zq_b, zq_c, zq_d, zq_e, zq_f, zq_g, zq_h, zq_i, zq_j, zq_k, zq_l, zq_m, zq_n, zq_o, zq_p, zq_q, zq_r, zq_s, zq_t, zq_u, zq_v, zq_w, zq_x, zq_y, zq_z, zq_A, zq_B, zq_C, zq_D, zq_E, zq_F, zq_G, zq_H, zq_I, zq_J, zq_K, zq_L, ↓zq_M, ↓zq_N, ↓zq_O, ↓zq_P, ↓zq_Q, ↓zq_R, zq_S, zq_T, zq_U, zq_V, zq_W, zq_X, zq_Y, zq_Z, zq_0, zq_1, zq_2, zq_3, zq_4, zq_5, ↓zq_6, ↓zq_7, ↓zq_8, ↓zq_9, ↓zq_aa, zq_ab, zq_ac, zq_ad, zq_ae, zq_af, zq_ag, ↓zq_ah, ↓zq_ai, ↓zq_aj, zq_ak, ↓zq_al, ↓zq_am, e_b1, e_b2, x_o1, x_o2, c0, c0_n]
theorem y_Kmh {kd : Int} (hk : 0 ≤ kd ∧ kd ≤ 3) : (y_K 1 kd = 1 ↔ w_mh 1 kd) ∧ (y_K 3 kd = 1 ↔ w_mh 2 kd) ∧ (y_K 7 kd = 1 ↔ w_mh 3 kd) := by
  have h : kd = 0 ∨ kd = 1 ∨ kd = 2 ∨ kd = 3 := by omega
  unfold y_K w_mh
  rcases h with rfl | rfl | rfl | rfl <;> decide +kernel
/-- the numbers of the TEXT as the class's rows hold them -/
def y_X (b : Nat → Int) (n : Nat) (X : Nat → Int) : Prop := ∀ k, k < n → w_N b k → X (w_T b k 8).toNat = w_v b n k
theorem y_v99 {b : Nat → Int} {n k : Nat} (h : w_N b k) : 0 ≤ w_v b n k ∧ w_v b n k ≤ 99 := by
  have := h.2
  unfold w_v
  split <;> omega
theorem y_may2 {p ks : Int} (hp : p ≤ 40) : ∀ (q : Int) (M : EM), 0 ≤ q → (q < p ∧ y_K ks (r_G M (28 * q)) = 1 ∧ r_G M (28 * q + 1) = 0 → E_C 185 [192, q, p, ks] M = some (1, M)) ∧ (¬ (q < p ∧ y_K ks (r_G M (28 * q)) = 1 ∧ r_G M (28 * q + 1) = 0) → E_C 185 [192, q, p, ks] M = some (0, M)) := fun _ _ hq => y_may hq hp
/-- member i may come into PART p -/
def y_J (g0 : Int → Int) (p : Nat) (Q : Int → Prop) (X : Nat → Int) (f i : Nat) : Prop := (0 ≤ X (f + i) ∧ X (f + i) < p) ∧ Q (g0 (28 * X (f + i))) ∧ g0 (28 * X (f + i) + 1) = 0 ∧ ∀ j, j < i → X (f + j) ≠ X (f + i)
def y_mr (g0 g : Int → Int) (p : Nat) (X : Nat → Int) (f i : Nat) : Prop := (∀ j, j < i → g (28 * (p : Int) + 3 + j) = X (f + j) ∧ g (28 * X (f + j) + 1) = (p : Int) + 1) ∧ (∀ x, 0 ≤ x → (x < 28 * (p : Int) ∨ 28 * (p : Int) + 28 ≤ x) → (∀ j, j < i → x ≠ 28 * X (f + j) + 1) → g x = g0 x)
def y_bl (g0 g : Int → Int) (p : Nat) (S : Int → Prop) : Prop := ∀ x, 0 ≤ x → x < 28 → ¬ S x → g (28 * (p : Int) + x) = g0 (28 * (p : Int) + x)
/-- all but the row is as it was, but for the place and the number -/
def y_fr (N M : EM) : Prop := ∀ id i, id ≠ 193 → ¬ (id = 192 ∧ (i = 15 ∨ i = 18)) → M id i = N id i
section YO
variable {b : Nat → Int} {n k : Nat} {M M' N : EM}
theorem y_fr_t (h : y_fr N M) (t : r_tt M M') : y_fr N M' := fun id i h1 h2 => (t.2.1 id i h2).trans (h id i h1 h2)
theorem y_G_t (t : r_tt M M') : r_G M' = r_G M := funext fun i => t.2.1 _ _ (by omega)
theorem y_Bw {i v : Int} (h : y_B b n k M) (hv : -2147483648 ≤ v ∧ v ≤ 2147483647) : y_B b n k (e_up M 193 i.toNat v) := by
  obtain ⟨h1, h2, h3, h4, h5, h6, h7, h8⟩ := h
  have e : ∀ id j, id ≠ 193 → e_up M 193 i.toNat v id j = M id j := fun id j hid => c_up_n (fun q => hid q.1)
  refine ⟨r_upw hv h1, by rw [e _ _ (by decide)]; exact h2, h3, by rw [e _ _ (by decide)]; exact h4, h5, by rw [e _ _ (by decide)]; exact h6, by rw [e _ _ (by decide)]; exact h7, fun j hj => ?_⟩
  rw [e _ _ (by decide), e _ _ (by decide)]
  exact h8 j hj
theorem y_frw {i v : Int} (h : y_fr N M) : y_fr N (e_up M 193 i.toNat v) := fun id j h1 h2 => (c_up_n (fun q => h1 q.1)).trans (h id j h1 h2)
/-- in a TEXT without FAULT a number comes where one is wanted -/
theorem y_dig (hA : w_A b n) (hz : w_T b n 2 = 0) (hk : k ≤ n) (h2 : w_T b k 2 = 1) (h91 : ¬ (w_T b k 3 = 114 ∧ w_T b k 5 = 0)) : k < n ∧ 48 ≤ b k ∧ b k ≤ 57 := by
  have hl : k < n := by
    rcases Nat.lt_or_ge k n with h | h
    · exact h
    · have e : k = n := by omega
      rw [e] at h2
      omega
  have ok := hA k hl
  unfold w_ok at ok
  rw [if_neg (by omega), if_pos h2] at ok
  rcases ok with ok | ok
  · exact ⟨hl, ok⟩
  · exact absurd ok.2 h91
/-- behind it a sign -/
theorem y_sig (hA : w_A b n) (hz : w_T b n 2 = 0) (hk : k ≤ n) (rd : y_rd b n k) : k < n ∧ ((b k = 47 ∧ w_T b k 3 = 99 ∧ w_T b k 4 = 0) ∨ (b k = 93 ∧ w_T b k 5 ≠ 0) ∨ (b k = 32 ∧ w_T b k 3 ≠ 98 ∧ ¬ (w_T b k 3 = 99 ∧ w_T b k 4 = 0)) ∨ (b k = 59 ∧ w_T b k 5 = 0 ∧ ¬ (w_T b k 3 = 99 ∧ w_T b k 4 = 0))) := by
  have hl : k < n := by
    rcases Nat.lt_or_ge k n with h | h
    · exact h
    · have e : k = n := by omega
      have := rd.1
      rw [e] at this
      exact absurd hz this
  exact ⟨hl, (y_okr rd hl).mp (hA k hl)⟩
end YO
theorem y_n192 {M : EM} {a k : Nat} {v : Int} : (e_up M 193 a v) 192 k = M 192 k := c_up_n (fun q => absurd q.1 (by decide))
/-- where the way through a STATEMENT over others ends: at its ; -/
def y_OE (b : Nat → Int) (n : Nat) (N : EM) (g0 : Int → Int) (p most : Nat) (Q : Int → Prop) (X : Nat → Int) (f k i : Nat) (o : EO) : Prop := ∃ r M' k' l, o = some (r, M') ∧ y_B b n k' M' ∧ y_fr N M' ∧ k < k' ∧ k' < n ∧ b k' = 59 ∧ y_rd b n k' ∧ w_T b k' 5 = 0 ∧ w_T b k' 3 = w_T b (k + 1) 3 ∧ w_T b k' 7 = w_T b (k + 1) 7 ∧ i < l ∧ w_T b k' 8 = ((f + l : Nat) : Int) ∧ ((r = 1 ∧ l ≤ most ∧ (∀ j, j < l → y_J g0 p Q X f j) ∧ y_mr g0 (r_G M') p X f l ∧ y_bl g0 (r_G M') p (fun x => x = 2 ∨ (3 ≤ x ∧ x < 3 + l)) ∧ r_G M' (28 * (p : Int) + 2) = l) ∨ (r = 0 ∧ ∃ j, j < l ∧ (¬ y_J g0 p Q X f j ∨ most ≤ j)))
/-- what stands of PART p when i numbers were read: x4 have come, x5 tells whether all is well -/
def y_IV (g0 : Int → Int) (p most : Nat) (Q : Int → Prop) (X : Nat → Int) (f i : Nat) (M : EM) (x4 x5 : Int) : Prop := (0 ≤ x4 ∧ x4 ≤ 8) ∧ ((x5 = 1 ∧ x4 = i ∧ i ≤ most ∧ (∀ j, j < i → y_J g0 p Q X f j) ∧ y_mr g0 (r_G M) p X f i ∧ y_bl g0 (r_G M) p (fun x => 3 ≤ x ∧ x < 3 + i)) ∨ (x5 = 0 ∧ ∃ j, j < i ∧ (¬ y_J g0 p Q X f j ∨ most ≤ j)))
theorem y_IVG {g0 : Int → Int} {p most : Nat} {Q : Int → Prop} {X : Nat → Int} {f i : Nat} {M M' : EM} {x4 x5 : Int} (e : r_G M' = r_G M) (h : y_IV g0 p most Q X f i M x4 x5) : y_IV g0 p most Q X f i M' x4 x5 := by
  unfold y_IV at h ⊢
  rw [e]
  exact h
theorem y_IV0 {g0 : Int → Int} {p most : Nat} {Q : Int → Prop} {X : Nat → Int} {f i : Nat} {M : EM} {x4 x5 : Int} (h : y_IV g0 p most Q X f i M x4 x5) (h5 : x5 = 0) : y_IV g0 p most Q X f (i + 1) M x4 0 := by
  obtain ⟨h1, h2⟩ := h
  rcases h2 with h2 | ⟨h2, j, j1, j2⟩
  · exact absurd h5 (by omega)
  · exact ⟨h1, Or.inr ⟨rfl, j, by omega, j2⟩⟩
/-- one more comes -/
theorem y_mr_up {g0 g g' : Int → Int} {p i o : Nat} {X : Nat → Int} {f : Nat} (h : y_mr g0 g p X f i) (ho : X (f + i) = o) (hop : o < p) (hne : ∀ j, j < i → X (f + j) ≠ X (f + i)) (hX : ∀ j, j < i → 0 ≤ X (f + j) ∧ X (f + j) < p) (hi : i < 8) (e1 : g' (28 * (p : Int) + 3 + i) = o) (e2 : g' (28 * (o : Int) + 1) = (p : Int) + 1) (e3 : ∀ x, 0 ≤ x → x ≠ 28 * (p : Int) + 3 + i → x ≠ 28 * (o : Int) + 1 → (x < 28 * (p : Int) + 11) → g' x = g x) (e4 : ∀ x, 28 * (p : Int) + 28 ≤ x → g' x = g x) : y_mr g0 g' p X f (i + 1) := by
  obtain ⟨a1, a2⟩ := h
  refine ⟨fun j hj => ?_, fun x x0 hx hn => ?_⟩
  · by_cases c : j = i
    · subst c
      rw [ho]
      exact ⟨e1, e2⟩
    · obtain ⟨b1, b2⟩ := a1 j (by omega)
      have n1 := hne j (by omega)
      have n2 := hX j (by omega)
      rw [ho] at n1
      refine ⟨?_, ?_⟩
      · rw [e3 _ (by omega) (by omega) (by omega) (by omega)]
        exact b1
      · rw [e3 _ (by omega) (by omega) (by omega) (by omega)]
        exact b2
  · have n1 := hn i (by omega)
    rw [ho] at n1
    rcases hx with hx | hx
    · rw [e3 x x0 (by omega) n1 (by omega)]
      exact a2 x x0 (Or.inl hx) (fun j hj => hn j (by omega))
    · rw [e4 x hx]
      exact a2 x x0 (Or.inr hx) (fun j hj => hn j (by omega))
theorem y_leaf {P W ks I Qv ia ib x6 pos k1 : Int} {na nb : Nat} {M M1 M2 N1 : EM} {o : EO} (h15 : M 192 15 = pos) (w1 : e_w (pos + 1) = k1) (hM1' : e_up M 192 15 k1 = M1) (g2 : E_C 179 [192] M1 = some (1, M2)) (hq : M2 192 18 = Qv) (c1i : I < W) (k5 : E_C 185 [192, Qv, P, ks] M2 = some (1, M2)) (v1 : e_w (28 * P) = 28 * P) (v2 : e_w (28 * P + 3) = 28 * P + 3) (v3 : e_w (28 * P + 3 + I) = ia) (v4 : e_w (28 * Qv) = 28 * Qv) (v5 : e_w (28 * Qv + 1) = ib) (v6 : e_w (I + 1) = I + 1) (v7 : e_w (P + 1) = P + 1) (s1 : ∀ v, e_st 100 [193, ia, v] M2 = some (e_up M2 193 na v)) (s2 : ∀ v M, e_st 100 [193, ib, v] M = some (e_up M 193 nb v)) (hN1' : e_up (e_up M2 193 na Qv) 193 nb (P + 1) = N1) (u1 : E_V 187 99 [192, P, W, ks, I + 1, 1, 1] N1 = o) : E_V 187 6 [192, P, W, ks, I, 1, x6] M = o := by
  have yn : ∀ (M : EM) (a k : Nat) (v : Int), (e_up M 193 a v) 192 k = M 192 k := fun M a k v => c_up_n (fun q => absurd q.1 (by decide))
  rw [E_V_eq]
  show e_tv E_C (E_V 187) e_t187_6 [192, P, W, ks, I, 1, x6] M = _
  unfold e_t187_6
  simp [zq_a, zq_b, zq_c, zq_d, zq_e, zq_f, zq_g, zq_h, zq_i, zq_j, zq_k, zq_l, zq_m, zq_n, zq_o, zq_p, zq_q, zq_r, zq_s, zq_t, zq_u, zq_v, zq_w, zq_x, zq_y, zq_z, zq_A, zq_B, zq_C, zq_D, zq_E, zq_F, zq_G, zq_H, zq_I, zq_J, zq_K, zq_L, ↓zq_M, ↓zq_N, ↓zq_O, ↓zq_P, ↓zq_Q, ↓zq_R, zq_S, zq_T, zq_U, zq_V, zq_W, zq_X, zq_Y, zq_Z, zq_0, zq_1, zq_2, zq_3, zq_4, zq_5, ↓zq_6, ↓zq_7, ↓zq_8, ↓zq_9, ↓zq_aa, zq_ab, zq_ac, zq_ad, zq_ae, zq_af, zq_ag, ↓zq_ah, ↓zq_ai, ↓zq_aj, zq_ak, ↓zq_al, ↓zq_am, e_b1, e_b2, x_o1, x_o2, r_O0, r_F15, r_F18, r_P15, yn, h15, w1, hM1', g2, hq, c1i, k5, v1, v2, v3, v4, v5, v6, v7, s1, s2, hN1', u1]
theorem y_over {b : Nat → Int} {n : Nat} (hA : w_A b n) (hz : w_T b n 2 = 0) {p most : Nat} (hp : p < 40) (hmost : most ≤ 6) {ks : Int} {Q : Int → Prop} (hmay : ∀ (q : Int) (M : EM), 0 ≤ q → (q < p ∧ Q (r_G M (28 * q)) ∧ r_G M (28 * q + 1) = 0 → E_C 185 [192, q, (p : Int), ks] M = some (1, M)) ∧ (¬ (q < p ∧ Q (r_G M (28 * q)) ∧ r_G M (28 * q + 1) = 0) → E_C 185 [192, q, (p : Int), ks] M = some (0, M))) {N : EM} {X : Nat → Int} (hX : y_X b n X) {g0 : Int → Int} {f : Nat} : ∀ (m k : Nat) (M : EM) (x4 x5 x6 : Int) (i : Nat), n - k ≤ m → y_B b n k M → k < n → y_fr N M → w_T b (k + 1) 2 = 1 → (w_T b (k + 1) 3 = 102 ∨ w_T b (k + 1) 3 = 98) → w_T b (k + 1) 5 = 0 → w_T b (k + 1) 8 = ((f + i : Nat) : Int) → y_IV g0 p most Q X f i M x4 x5 → (∀ x : Int, 0 ≤ x → x < p → g0 (28 * x) = r_G M (28 * x)) → y_OE b n N g0 p most Q X f k i (E_V 187 6 [192, (p : Int), (most : Int), ks, x4, x5, x6] M) := by
  intro m
  induction m with
  | zero =>
    intro k M x4 x5 x6 i hm hB hk
    omega
  | succ m ih =>
    intro k M x4 x5 x6 i hm hB hk hf h2 h3 h5 h8 hI hkd
    obtain ⟨o1, o2⟩ := y_on hB hk
    have A1 := w_Al hA (show k + 1 ≤ n by omega)
    have dg := y_dig hA hz o2.2.2.1 h2 (by omega)
    obtain ⟨k', M2, g2, t2, B2, ⟨z1, z2, z3, z4, z5, z6, z7, z8, z9, z10, z11⟩, num⟩ := (y_num o2 A1 h2).2 dg
    have t12 := r_tt_tr o1 t2
    have eG2 := y_G_t t12
    have f2 := y_fr_t hf t12
    have hx := hX (k + 1) dg.1 z3
    rw [h8, Int.toNat_natCast, ← num] at hx
    have v99 := y_v99 (n := n) z3
    rw [← num] at v99
    obtain ⟨q, hq⟩ : ∃ q : Nat, M2 192 18 = (q : Int) := ⟨(M2 192 18).toNat, by omega⟩
    rw [hq] at hx v99
    obtain ⟨l', sg⟩ := y_sig hA hz z2 z5
    have h15 := hB.2.1
    -- behind the number
    have tail : ∀ (N1 : EM) (y4 y5 : Int), y_B b n k' N1 → y_fr N N1 → y_IV g0 p most Q X f (i + 1) N1 y4 y5 → (∀ x : Int, 0 ≤ x → x < p → g0 (28 * x) = r_G N1 (28 * x)) → y_OE b n N g0 p most Q X f k i (E_V 187 99 [192, (p : Int), (most : Int), ks, y4, y5, 1] N1) := by
      intro N1 y4 y5 BN fN IN kN
      have ksg := r_sign (y_ty BN)
      rw [y_sg BN, y_sb l'] at ksg
      by_cases c : b k' = 32
      · obtain ⟨a1, a2, a3, a4, a5, a6, a7, a8⟩ := y_spc z4 z5 l' c (by omega) (by omega)
        obtain ⟨r, M', k'', l, u1, u2, u3, u4, u5, u6, u7, u8, u9, u10, u11, u12, u13⟩ := ih k' N1 y4 y5 1 (i + 1) (by omega) BN l' fN a2 (by omega) (by omega) (by rw [a8, z11, h8]; omega) IN kN
        refine ⟨r, M', k'', l, ?_, u2, u3, by omega, u5, u6, u7, u8, by omega, by omega, by omega, u12, u13⟩
        rw [c] at ksg
        rw [E_V_eq]
        show e_tv E_C (E_V 187) e_t187_99 [192, (p : Int), (most : Int), ks, y4, y5, 1] N1 = _
        unfold e_t187_99
        simp [zq_a, zq_b, zq_c, zq_d, zq_e, zq_f, zq_g, zq_h, zq_i, zq_j, zq_k, zq_l, zq_m, zq_n, zq_o, zq_p, zq_q, zq_r, zq_s, zq_t, zq_u, zq_v, zq_w, zq_x, zq_y, zq_z, zq_A, zq_B, zq_C, zq_D, zq_E, zq_F, zq_G, zq_H, zq_I, zq_J, zq_K, zq_L, ↓zq_M, ↓zq_N, ↓zq_O, ↓zq_P, ↓zq_Q, ↓zq_R, zq_S, zq_T, zq_U, zq_V, zq_W, zq_X, zq_Y, zq_Z, zq_0, zq_1, zq_2, zq_3, zq_4, zq_5, ↓zq_6, ↓zq_7, ↓zq_8, ↓zq_9, ↓zq_aa, zq_ab, zq_ac, zq_ad, zq_ae, zq_af, zq_ag, ↓zq_ah, ↓zq_ai, ↓zq_aj, zq_ak, ↓zq_al, ↓zq_am, e_b1, e_b2, x_o1, x_o2, ksg, u1]
      · have c59 : b k' = 59 := by omega
        obtain ⟨i1, i2⟩ := IN
        have st := r_stw (i := 28 * (p : Int) + 2) (v := y4) (M := N1) (by omega) (by omega)
        have hkz : 28 * (p : Int) + 2 ≥ 1 := by omega
        refine ⟨y5, e_up N1 193 (28 * (p : Int) + 2).toNat y4, k', i + 1, ?_, y_Bw BN ⟨by omega, by omega⟩, y_frw fN, by omega, l', c59, z5, by omega, by omega, by omega, by omega, by omega, ?_⟩
        · rw [c59] at ksg
          have w1 : e_w (28 * (p : Int)) = 28 * (p : Int) := by
            clear ksg st
            exact a_w_id (by omega) (by omega)
          have w2 : e_w (28 * (p : Int) + 2) = 28 * (p : Int) + 2 := by
            clear ksg st w1
            exact a_w_id (by omega) (by omega)
          rw [E_V_eq]
          show e_tv E_C (E_V 187) e_t187_99 [192, (p : Int), (most : Int), ks, y4, y5, 1] N1 = _
          unfold e_t187_99
          simp [zq_a, zq_b, zq_c, zq_d, zq_e, zq_f, zq_g, zq_h, zq_i, zq_j, zq_k, zq_l, zq_m, zq_n, zq_o, zq_p, zq_q, zq_r, zq_s, zq_t, zq_u, zq_v, zq_w, zq_x, zq_y, zq_z, zq_A, zq_B, zq_C, zq_D, zq_E, zq_F, zq_G, zq_H, zq_I, zq_J, zq_K, zq_L, ↓zq_M, ↓zq_N, ↓zq_O, ↓zq_P, ↓zq_Q, ↓zq_R, zq_S, zq_T, zq_U, zq_V, zq_W, zq_X, zq_Y, zq_Z, zq_0, zq_1, zq_2, zq_3, zq_4, zq_5, ↓zq_6, ↓zq_7, ↓zq_8, ↓zq_9, ↓zq_aa, zq_ab, zq_ac, zq_ad, zq_ae, zq_af, zq_ag, ↓zq_ah, ↓zq_ai, ↓zq_aj, zq_ak, ↓zq_al, ↓zq_am, e_b1, e_b2, x_o1, x_o2, r_O0, ksg, w1, w2, st]
        · rcases i2 with ⟨e1, e2, e3, e4, e5, e6⟩ | ⟨e1, e2⟩
          · refine Or.inl ⟨e1, e3, e4, ⟨fun j hj => ?_, fun x x0 hx hn => ?_⟩, fun x x0 x1 hs => ?_, ?_⟩
            · obtain ⟨v1, v2⟩ := e5.1 j hj
              have hj2 := (e4 j hj).1.2
              refine ⟨(r_G_n hkz (by omega)).trans v1, ?_⟩
              have hne : 28 * X (f + j) + 1 ≠ 28 * (p : Int) + 2 := by omega
              exact (r_G_n hkz hne).trans v2
            · exact (r_G_n hkz (by omega)).trans (e5.2 x x0 hx hn)
            · exact (r_G_n hkz (fun e => hs (Or.inl (by omega)))).trans (e6 x x0 x1 (fun e => hs (Or.inr e)))
            · rw [r_G_s, e2]
          · exact Or.inr ⟨e1, e2⟩
    have hkd2 : ∀ x : Int, 0 ≤ x → x < p → g0 (28 * x) = r_G M2 (28 * x) := fun x x0 x1 => by rw [eG2]; exact hkd x x0 x1
    have hI2 := y_IVG eG2 hI
    have w1 : e_w ((k : Int) + 1) = (k : Int) + 1 := by
      have := hB.2.2.2.2.1
      clear tail ih g2 num hx hI hI2 hkd hkd2
      exact a_w_id (by omega) (by omega)
    have hM1 : ∃ M1, M1 = e_up M 192 15 ((k : Int) + 1) := ⟨_, rfl⟩
    obtain ⟨M1, hM1⟩ := hM1
    rw [← hM1] at g2
    have hM1' := hM1.symm
    by_cases c0 : x5 = 0
    · obtain ⟨r, M', k'', l, u1, u2⟩ := tail M2 x4 0 B2 f2 (y_IV0 hI2 c0) hkd2
      refine ⟨r, M', k'', l, ?_, u2⟩
      subst c0
      clear tail ih
      rw [E_V_eq]
      show e_tv E_C (E_V 187) e_t187_6 [192, (p : Int), (most : Int), ks, x4, 0, x6] M = _
      unfold e_t187_6
      simp [zq_a, zq_b, zq_c, zq_d, zq_e, zq_f, zq_g, zq_h, zq_i, zq_j, zq_k, zq_l, zq_m, zq_n, zq_o, zq_p, zq_q, zq_r, zq_s, zq_t, zq_u, zq_v, zq_w, zq_x, zq_y, zq_z, zq_A, zq_B, zq_C, zq_D, zq_E, zq_F, zq_G, zq_H, zq_I, zq_J, zq_K, zq_L, ↓zq_M, ↓zq_N, ↓zq_O, ↓zq_P, ↓zq_Q, ↓zq_R, zq_S, zq_T, zq_U, zq_V, zq_W, zq_X, zq_Y, zq_Z, zq_0, zq_1, zq_2, zq_3, zq_4, zq_5, ↓zq_6, ↓zq_7, ↓zq_8, ↓zq_9, ↓zq_aa, zq_ab, zq_ac, zq_ad, zq_ae, zq_af, zq_ag, ↓zq_ah, ↓zq_ai, ↓zq_aj, zq_ak, ↓zq_al, ↓zq_am, e_b1, e_b2, x_o1, x_o2, r_O0, r_F15, r_F18, r_P15, h15, w1, hM1', g2, u1]
    · obtain ⟨i1, i2⟩ := hI2
      have i2 := i2.resolve_right (fun e => c0 e.1)
      obtain ⟨e1, e2, e3, e4, e5, e6⟩ := i2
      subst e1
      subst e2
      -- no: it may not come
      have no : (¬ y_J g0 p Q X f i ∨ most ≤ i) → y_OE b n N g0 p most Q X f k i (E_V 187 99 [192, (p : Int), (most : Int), ks, (i : Int), 0, 1] M2) := fun hbad => tail M2 i 0 B2 f2 ⟨i1, Or.inr ⟨rfl, i, by clear w1; omega, hbad⟩⟩ hkd2
      by_cases c1 : most > i
      · have c1' : i < most := by clear w1; omega
        have mc := hmay (q : Int) M2 v99.1
        have Jiff : ((q : Int) < p ∧ Q (r_G M2 (28 * (q : Int))) ∧ r_G M2 (28 * (q : Int) + 1) = 0) ↔ y_J g0 p Q X f i := by
          unfold y_J
          rw [hx]
          clear w1 mc no tail ih
          refine ⟨fun ⟨a, b', c⟩ => ?_, fun ⟨⟨_, a⟩, b', c, d⟩ => ?_⟩
          · rw [← hkd2 q (by omega) a] at b'
            have nj : ∀ j, j < i → X (f + j) ≠ (q : Int) := fun j hj e => by
              have := (e5.1 j hj).2
              rw [e, c] at this
              omega
            refine ⟨⟨by omega, a⟩, b', ?_, nj⟩
            rw [← e5.2 (28 * (q : Int) + 1) (by omega) (Or.inl (by omega)) (fun j hj e => nj j hj (by omega))]
            exact c
          · rw [hkd2 q (by omega) a] at b'
            refine ⟨a, b', ?_⟩
            rw [e5.2 (28 * (q : Int) + 1) (by omega) (Or.inl (by omega)) (fun j hj e => d j hj (by omega))]
            exact c
        by_cases c2 : y_J g0 p Q X f i
        · have k5 := mc.1 (Jiff.mpr c2)
          have qp : q < p := by
            have := c2.1.2
            rw [hx] at this
            clear w1
            omega
          have b0 : 0 ≤ (28 * (p : Int) + 3 + (i : Int)) ∧ (28 * (p : Int) + 3 + (i : Int)) < 1330 := by clear w1; omega
          have b1 : 0 ≤ (28 * (q : Int) + 1) ∧ (28 * (q : Int) + 1) < 1330 := by clear w1; omega
          have s1 := fun v => r_stw (i := 28 * (p : Int) + 3 + (i : Int)) (v := v) (M := M2) b0.1 b0.2
          have s2 := fun v M => r_stw (i := 28 * (q : Int) + 1) (v := v) (M := M) b1.1 b1.2
          have hk1 : 28 * (p : Int) + 3 + (i : Int) ≥ 1 := by clear w1; omega
          have hk2 : 28 * (q : Int) + 1 ≥ 1 := by clear w1; omega
          have hqp : (28 * (p : Int) + 3 + (i : Int)) ≠ 28 * (q : Int) + 1 := by clear w1; omega
          have G1 : r_G (e_up (e_up M2 193 (28 * (p : Int) + 3 + (i : Int)).toNat (q : Int)) 193 (28 * (q : Int) + 1).toNat ((p : Int) + 1)) (28 * (p : Int) + 3 + (i : Int)) = q := (r_G_n hk2 hqp).trans r_G_s
          have G2 : r_G (e_up (e_up M2 193 (28 * (p : Int) + 3 + (i : Int)).toNat (q : Int)) 193 (28 * (q : Int) + 1).toNat ((p : Int) + 1)) (28 * (q : Int) + 1) = (p : Int) + 1 := r_G_s
          have G3 : ∀ x, x ≠ 28 * (p : Int) + 3 + (i : Int) → x ≠ 28 * (q : Int) + 1 → r_G (e_up (e_up M2 193 (28 * (p : Int) + 3 + (i : Int)).toNat (q : Int)) 193 (28 * (q : Int) + 1).toNat ((p : Int) + 1)) x = r_G M2 x := fun x x1 x2 => (r_G_n hk2 x2).trans (r_G_n hk1 x1)
          have BN : y_B b n k' (e_up (e_up M2 193 (28 * (p : Int) + 3 + (i : Int)).toNat (q : Int)) 193 (28 * (q : Int) + 1).toNat ((p : Int) + 1)) := y_Bw (y_Bw B2 ⟨by clear w1; omega, by clear w1; omega⟩) ⟨by clear w1; omega, by clear w1; omega⟩
          have fN : y_fr N (e_up (e_up M2 193 (28 * (p : Int) + 3 + (i : Int)).toNat (q : Int)) 193 (28 * (q : Int) + 1).toNat ((p : Int) + 1)) := y_frw (y_frw f2)
          obtain ⟨N1, hN1⟩ : ∃ N1, N1 = e_up (e_up M2 193 (28 * (p : Int) + 3 + (i : Int)).toNat (q : Int)) 193 (28 * (q : Int) + 1).toNat ((p : Int) + 1) := ⟨_, rfl⟩
          rw [← hN1] at G1 G2 G3 BN fN
          have hN1' := hN1.symm
          have XX : ∀ j, j < i → 0 ≤ X (f + j) ∧ X (f + j) < p := fun j hj => by
            exact (e4 j hj).1
          have I1 : y_IV g0 p most Q X f (i + 1) N1 ((i : Int) + 1) 1 := by
            clear s1 s2 mc k5 no tail ih w1 g2
            refine ⟨by omega, Or.inl ⟨rfl, by omega, by omega, fun j hj => ?_, y_mr_up e5 hx qp (fun j hj => c2.2.2.2 j hj) XX (by omega) G1 G2 (fun x x0 x1 x2 x3 => G3 x x1 x2) (fun x x0 => G3 x (by omega) (by omega)), fun x x0 x1 hs => ?_⟩⟩
            · by_cases e : j = i
              · rw [e]; exact c2
              · exact e4 j (by omega)
            · rw [G3 _ (fun e => hs ⟨by omega, by omega⟩) (by omega)]
              exact e6 x x0 x1 (fun e => hs ⟨e.1, by omega⟩)
          have kN : ∀ x : Int, 0 ≤ x → x < p → g0 (28 * x) = r_G N1 (28 * x) := fun x x0 x1 => by
            rw [G3 _ (by clear w1; omega) (by clear w1; omega)]
            exact hkd2 x x0 x1
          obtain ⟨r, M', k'', l, u1, u2⟩ := tail N1 ((i : Int) + 1) 1 BN fN I1 kN
          have wp : e_w (28 * (p : Int)) = 28 * (p : Int) ∧ e_w (28 * (p : Int) + 3) = 28 * (p : Int) + 3 ∧ e_w (28 * (p : Int) + 3 + (i : Int)) = 28 * (p : Int) + 3 + (i : Int) ∧ e_w (28 * (q : Int)) = 28 * (q : Int) ∧ e_w (28 * (q : Int) + 1) = 28 * (q : Int) + 1 ∧ e_w ((i : Int) + 1) = (i : Int) + 1 ∧ e_w ((p : Int) + 1) = (p : Int) + 1 := by
            clear s1 s2 mc k5 no tail ih w1 g2 u1 u2 I1 kN G1 G2 G3 hN1 hN1' XX Jiff hI e5 e6 hkd hkd2
            refine ⟨?_, ?_, ?_, ?_, ?_, ?_, ?_⟩ <;> exact a_w_id (by omega) (by omega)
          obtain ⟨v1, v2, v3, v4, v5, v6, v7⟩ := wp
          exact ⟨r, M', k'', l, y_leaf h15 w1 hM1' g2 hq (Int.ofNat_lt.mpr c1') k5 v1 v2 v3 v4 v5 v6 v7 s1 s2 hN1' u1, u2⟩
        · have k5 := mc.2 (fun h => c2 (Jiff.mp h))
          obtain ⟨r, M', k'', l, u1, u2⟩ := no (Or.inl c2)
          refine ⟨r, M', k'', l, ?_, u2⟩
          clear tail ih no
          rw [E_V_eq]
          show e_tv E_C (E_V 187) e_t187_6 [192, (p : Int), (most : Int), ks, (i : Int), 1, x6] M = _
          unfold e_t187_6
          simp [zq_a, zq_b, zq_c, zq_d, zq_e, zq_f, zq_g, zq_h, zq_i, zq_j, zq_k, zq_l, zq_m, zq_n, zq_o, zq_p, zq_q, zq_r, zq_s, zq_t, zq_u, zq_v, zq_w, zq_x, zq_y, zq_z, zq_A, zq_B, zq_C, zq_D, zq_E, zq_F, zq_G, zq_H, zq_I, zq_J, zq_K, zq_L, ↓zq_M, ↓zq_N, ↓zq_O, ↓zq_P, ↓zq_Q, ↓zq_R, zq_S, zq_T, zq_U, zq_V, zq_W, zq_X, zq_Y, zq_Z, zq_0, zq_1, zq_2, zq_3, zq_4, zq_5, ↓zq_6, ↓zq_7, ↓zq_8, ↓zq_9, ↓zq_aa, zq_ab, zq_ac, zq_ad, zq_ae, zq_af, zq_ag, ↓zq_ah, ↓zq_ai, ↓zq_aj, zq_ak, ↓zq_al, ↓zq_am, e_b1, e_b2, x_o1, x_o2, r_O0, r_F15, r_F18, r_P15, h15, w1, hM1', g2, hq, c1', k5, u1]
      · have c1' : ¬ (i < most) := by clear w1; omega
        obtain ⟨r, M', k'', l, u1, u2⟩ := no (Or.inr (by clear w1; omega))
        refine ⟨r, M', k'', l, ?_, u2⟩
        clear tail ih no
        rw [E_V_eq]
        show e_tv E_C (E_V 187) e_t187_6 [192, (p : Int), (most : Int), ks, (i : Int), 1, x6] M = _
        unfold e_t187_6
        simp [zq_a, zq_b, zq_c, zq_d, zq_e, zq_f, zq_g, zq_h, zq_i, zq_j, zq_k, zq_l, zq_m, zq_n, zq_o, zq_p, zq_q, zq_r, zq_s, zq_t, zq_u, zq_v, zq_w, zq_x, zq_y, zq_z, zq_A, zq_B, zq_C, zq_D, zq_E, zq_F, zq_G, zq_H, zq_I, zq_J, zq_K, zq_L, ↓zq_M, ↓zq_N, ↓zq_O, ↓zq_P, ↓zq_Q, ↓zq_R, zq_S, zq_T, zq_U, zq_V, zq_W, zq_X, zq_Y, zq_Z, zq_0, zq_1, zq_2, zq_3, zq_4, zq_5, ↓zq_6, ↓zq_7, ↓zq_8, ↓zq_9, ↓zq_aa, zq_ab, zq_ac, zq_ad, zq_ae, zq_af, zq_ag, ↓zq_ah, ↓zq_ai, ↓zq_aj, zq_ak, ↓zq_al, ↓zq_am, e_b1, e_b2, x_o1, x_o2, r_O0, r_F15, r_F18, r_P15, h15, w1, hM1', g2, hq, c1', u1]
end
