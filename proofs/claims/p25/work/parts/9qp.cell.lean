section
/-! the reference makes a CELL: exactly -/
theorem y_c4y {P I x4 x5 pos k1 pos2 k2 a c ia ib : Int} {na nb : Nat} {M M1 M2 M3 M4 N1 : EM} {t u : Int} (h15 : M 192 15 = pos) (w1 : e_w (pos + 1) = k1) (hM1 : e_up M 192 15 k1 = M1) (g2 : E_C 179 [192] M1 = some (t, M2)) (n1 : M2 192 18 = a) (h15' : M2 192 15 = pos2) (w2 : e_w (pos2 + 1) = k2) (hM3 : e_up M2 192 15 k2 = M3) (g4 : E_C 179 [192] M3 = some (u, M4)) (n2 : M4 192 18 = c) (c1 : I < 6) (v1 : e_w (28 * P) = 28 * P) (v2 : e_w (28 * P + 3) = 28 * P + 3) (v3 : e_w (28 * P + 3 + I) = ia) (v4 : e_w (28 * P + 9) = 28 * P + 9) (v5 : e_w (28 * P + 9 + I) = ib) (v6 : e_w (I + 1) = I + 1) (s1 : ∀ v, e_st 100 [193, ia, v] M4 = some (e_up M4 193 na v)) (s2 : ∀ v M, e_st 100 [193, ib, v] M = some (e_up M 193 nb v)) (hN1 : e_up (e_up M4 193 na a) 193 nb c = N1) : E_V 184 4 [192, P, I, 1, x4, x5] M = E_V 184 101 [192, P, I + 1, 1, u, a] N1 := by
  rw [E_V_eq]
  show e_tv E_C (E_V 184) e_t184_4 [192, P, I, 1, x4, x5] M = _
  unfold e_t184_4
  simp [zq_a, zq_b, zq_c, zq_d, zq_e, zq_f, zq_g, zq_h, zq_i, zq_j, zq_k, zq_l, zq_m, zq_n, zq_o, zq_p, zq_q, zq_r, zq_s, zq_t, zq_u, zq_v, zq_w, zq_x, zq_y, zq_z, zq_A, zq_B, zq_C, zq_D, zq_E, zq_F, zq_G, zq_H, zq_I, zq_J, zq_K, zq_L, ↓zq_M, ↓zq_N, ↓zq_O, ↓zq_P, ↓zq_Q, ↓zq_R, zq_S, zq_T, zq_U, zq_V, zq_W, zq_X, zq_Y, zq_Z, zq_0, zq_1, zq_2, zq_3, zq_4, zq_5, ↓zq_6, ↓zq_7, ↓zq_8, ↓zq_9, ↓zq_aa, zq_ab, zq_ac, zq_ad, zq_ae, zq_af, zq_ag, ↓zq_ah, ↓zq_ai, ↓zq_aj, zq_ak, ↓zq_al, ↓zq_am, e_b1, e_b2, x_o1, x_o2, r_O0, r_F15, r_F18, r_P15, y_n192, h15, w1, hM1, g2, n1, h15', w2, hM3, g4, n2, c1, v1, v2, v3, v4, v5, v6, s1, s2, hN1]
theorem y_c4n {P I x3 x4 x5 pos k1 pos2 k2 a : Int} {M M1 M2 M3 M4 : EM} {t u : Int} (h15 : M 192 15 = pos) (w1 : e_w (pos + 1) = k1) (hM1 : e_up M 192 15 k1 = M1) (g2 : E_C 179 [192] M1 = some (t, M2)) (n1 : M2 192 18 = a) (h15' : M2 192 15 = pos2) (w2 : e_w (pos2 + 1) = k2) (hM3 : e_up M2 192 15 k2 = M3) (g4 : E_C 179 [192] M3 = some (u, M4)) (hx : x3 = 0 ∨ ¬ I < 6) : E_V 184 4 [192, P, I, x3, x4, x5] M = E_V 184 101 [192, P, I, 0, u, a] M4 := by
  by_cases c0 : x3 = 0
  · subst c0
    rw [E_V_eq]
    show e_tv E_C (E_V 184) e_t184_4 [192, P, I, 0, x4, x5] M = _
    unfold e_t184_4
    simp [zq_a, zq_b, zq_c, zq_d, zq_e, zq_f, zq_g, zq_h, zq_i, zq_j, zq_k, zq_l, zq_m, zq_n, zq_o, zq_p, zq_q, zq_r, zq_s, zq_t, zq_u, zq_v, zq_w, zq_x, zq_y, zq_z, zq_A, zq_B, zq_C, zq_D, zq_E, zq_F, zq_G, zq_H, zq_I, zq_J, zq_K, zq_L, ↓zq_M, ↓zq_N, ↓zq_O, ↓zq_P, ↓zq_Q, ↓zq_R, zq_S, zq_T, zq_U, zq_V, zq_W, zq_X, zq_Y, zq_Z, zq_0, zq_1, zq_2, zq_3, zq_4, zq_5, ↓zq_6, ↓zq_7, ↓zq_8, ↓zq_9, ↓zq_aa, zq_ab, zq_ac, zq_ad, zq_ae, zq_af, zq_ag, ↓zq_ah, ↓zq_ai, ↓zq_aj, zq_ak, ↓zq_al, ↓zq_am, e_b1, e_b2, x_o1, x_o2, r_O0, r_F15, r_F18, r_P15, h15, w1, hM1, g2, n1, h15', w2, hM3, g4]
  · have c1 : ¬ I < 6 := hx.resolve_left c0
    have c2 : 6 ≤ I := by
      clear w1 w2
      omega
    rw [E_V_eq]
    show e_tv E_C (E_V 184) e_t184_4 [192, P, I, x3, x4, x5] M = _
    unfold e_t184_4
    simp [zq_a, zq_b, zq_c, zq_d, zq_e, zq_f, zq_g, zq_h, zq_i, zq_j, zq_k, zq_l, zq_m, zq_n, zq_o, zq_p, zq_q, zq_r, zq_s, zq_t, zq_u, zq_v, zq_w, zq_x, zq_y, zq_z, zq_A, zq_B, zq_C, zq_D, zq_E, zq_F, zq_G, zq_H, zq_I, zq_J, zq_K, zq_L, ↓zq_M, ↓zq_N, ↓zq_O, ↓zq_P, ↓zq_Q, ↓zq_R, zq_S, zq_T, zq_U, zq_V, zq_W, zq_X, zq_Y, zq_Z, zq_0, zq_1, zq_2, zq_3, zq_4, zq_5, ↓zq_6, ↓zq_7, ↓zq_8, ↓zq_9, ↓zq_aa, zq_ab, zq_ac, zq_ad, zq_ae, zq_af, zq_ag, ↓zq_ah, ↓zq_ai, ↓zq_aj, zq_ak, ↓zq_al, ↓zq_am, e_b1, e_b2, x_o1, x_o2, r_O0, r_F15, r_F18, r_P15, h15, w1, hM1, g2, n1, h15', w2, hM3, g4, c0, c1, c2]
theorem y_c101a {P I x3 x4 x5 : Int} {M : EM} (ks : E_C 177 [192] M = some (32, M)) : E_V 184 101 [192, P, I, x3, x4, x5] M = E_V 184 4 [192, P, I, x3, x4, x5] M := by
  rw [E_V_eq]
  show e_tv E_C (E_V 184) e_t184_101 [192, P, I, x3, x4, x5] M = _
  unfold e_t184_101
  simp [zq_a, zq_b, zq_c, zq_d, zq_e, zq_f, zq_g, zq_h, zq_i, zq_j, zq_k, zq_l, zq_m, zq_n, zq_o, zq_p, zq_q, zq_r, zq_s, zq_t, zq_u, zq_v, zq_w, zq_x, zq_y, zq_z, zq_A, zq_B, zq_C, zq_D, zq_E, zq_F, zq_G, zq_H, zq_I, zq_J, zq_K, zq_L, ↓zq_M, ↓zq_N, ↓zq_O, ↓zq_P, ↓zq_Q, ↓zq_R, zq_S, zq_T, zq_U, zq_V, zq_W, zq_X, zq_Y, zq_Z, zq_0, zq_1, zq_2, zq_3, zq_4, zq_5, ↓zq_6, ↓zq_7, ↓zq_8, ↓zq_9, ↓zq_aa, zq_ab, zq_ac, zq_ad, zq_ae, zq_af, zq_ag, ↓zq_ah, ↓zq_ai, ↓zq_aj, zq_ak, ↓zq_al, ↓zq_am, e_b1, e_b2, x_o1, x_o2, ks]
/-- the CURVE's points, as the row g holds them -/
def y_up (g : Int → Int) (P : Int) (j : Int) : Prop := g (28 * P + 3 + (j - 1)) < g (28 * P + 3 + j) ∧ g (28 * P + 9 + j) < g (28 * P + 8 + j)
theorem y_c184s {P I x4 x5 : Int} {M : EM} (hp : 0 ≤ P ∧ P < 40) (h4 : 1 ≤ x4 ∧ x4 < I) (hI : I ≤ 6) : (y_up (r_G M) P x4 → E_V 184 184 [192, P, I, 1, x4, x5] M = E_V 184 184 [192, P, I, 1, x4 + 1, x5] M) ∧ (¬ y_up (r_G M) P x4 → E_V 184 184 [192, P, I, 1, x4, x5] M = E_V 184 184 [192, P, I, 0, x4 + 1, x5] M) := by
  have k1 : E_C 172 [192, P, x4] M = some (r_G M (28 * P + 3 + x4), M) := r_of (M := M) (p := P) (k := x4) hp ⟨by omega, by omega⟩
  have k2 : E_C 172 [192, P, x4 - 1] M = some (r_G M (28 * P + 3 + (x4 - 1)), M) := r_of (M := M) (p := P) (k := x4 - 1) hp ⟨by omega, by omega⟩
  have l1 : e_op 60 [193, 28 * P + 9 + x4] M = some (r_G M (28 * P + 9 + x4)) := r_rd (by omega) (by omega)
  have l2 : e_op 60 [193, 28 * P + 8 + x4] M = some (r_G M (28 * P + 8 + x4)) := r_rd (by omega) (by omega)
  have ww : e_w (28 * P) = 28 * P ∧ e_w (28 * P + 9) = 28 * P + 9 ∧ e_w (28 * P + 9 + x4) = 28 * P + 9 + x4 ∧ e_w (28 * P + 8) = 28 * P + 8 ∧ e_w (28 * P + 8 + x4) = 28 * P + 8 + x4 ∧ e_w (x4 - 1) = x4 - 1 ∧ e_w (x4 + 1) = x4 + 1 := by
    refine ⟨?_, ?_, ?_, ?_, ?_, ?_, ?_⟩ <;> exact a_w_id (by omega) (by omega)
  obtain ⟨w1, w2, w3, w4, w5, w6, w7⟩ := ww
  unfold y_up
  have q := h4.2
  generalize r_G M (28 * P + 3 + x4) = A at k1 ⊢
  generalize r_G M (28 * P + 3 + (x4 - 1)) = B at k2 ⊢
  generalize r_G M (28 * P + 9 + x4) = C at l1 ⊢
  generalize r_G M (28 * P + 8 + x4) = D at l2 ⊢
  rcases x_lt B A with ⟨c1, c1_n⟩ | ⟨c1, c1_n⟩
  · rcases x_lt C D with ⟨c2, c2_n⟩ | ⟨c2, c2_n⟩
    · refine ⟨fun _ => ?_, fun h => absurd ⟨c1, c2⟩ h⟩
      rw [E_V_eq]
      show e_tv E_C (E_V 184) e_t184_184 [192, P, I, 1, x4, x5] M = _
      unfold e_t184_184
      simp [zq_a, zq_b, zq_c, zq_d, zq_e, zq_f, zq_g, zq_h, zq_i, zq_j, zq_k, zq_l, zq_m, zq_n, zq_o, zq_p, zq_q, zq_r, zq_s, zq_t, zq_u, zq_v, zq_w, zq_x, zq_y, zq_z, zq_A, zq_B, zq_C, zq_D, zq_E, zq_F, zq_G, zq_H, zq_I, zq_J, zq_K, zq_L, ↓zq_M, ↓zq_N, ↓zq_O, ↓zq_P, ↓zq_Q, ↓zq_R, zq_S, zq_T, zq_U, zq_V, zq_W, zq_X, zq_Y, zq_Z, zq_0, zq_1, zq_2, zq_3, zq_4, zq_5, ↓zq_6, ↓zq_7, ↓zq_8, ↓zq_9, ↓zq_aa, zq_ab, zq_ac, zq_ad, zq_ae, zq_af, zq_ag, ↓zq_ah, ↓zq_ai, ↓zq_aj, zq_ak, ↓zq_al, ↓zq_am, e_b1, e_b2, x_o1, x_o2, r_O0, q, w1, w2, w3, w4, w5, w6, w7, k1, k2, l1, l2, c1, c1_n, c2, c2_n]
    · refine ⟨fun h => absurd h.2 c2, fun _ => ?_⟩
      rw [E_V_eq]
      show e_tv E_C (E_V 184) e_t184_184 [192, P, I, 1, x4, x5] M = _
      unfold e_t184_184
      simp [zq_a, zq_b, zq_c, zq_d, zq_e, zq_f, zq_g, zq_h, zq_i, zq_j, zq_k, zq_l, zq_m, zq_n, zq_o, zq_p, zq_q, zq_r, zq_s, zq_t, zq_u, zq_v, zq_w, zq_x, zq_y, zq_z, zq_A, zq_B, zq_C, zq_D, zq_E, zq_F, zq_G, zq_H, zq_I, zq_J, zq_K, zq_L, ↓zq_M, ↓zq_N, ↓zq_O, ↓zq_P, ↓zq_Q, ↓zq_R, zq_S, zq_T, zq_U, zq_V, zq_W, zq_X, zq_Y, zq_Z, zq_0, zq_1, zq_2, zq_3, zq_4, zq_5, ↓zq_6, ↓zq_7, ↓zq_8, ↓zq_9, ↓zq_aa, zq_ab, zq_ac, zq_ad, zq_ae, zq_af, zq_ag, ↓zq_ah, ↓zq_ai, ↓zq_aj, zq_ak, ↓zq_al, ↓zq_am, e_b1, e_b2, x_o1, x_o2, r_O0, q, w1, w2, w3, w4, w5, w6, w7, k1, k2, l1, l2, c1, c1_n, c2, c2_n]
  · refine ⟨fun h => absurd h.1 c1, fun _ => ?_⟩
    rw [E_V_eq]
    show e_tv E_C (E_V 184) e_t184_184 [192, P, I, 1, x4, x5] M = _
    unfold e_t184_184
    simp [zq_a, zq_b, zq_c, zq_d, zq_e, zq_f, zq_g, zq_h, zq_i, zq_j, zq_k, zq_l, zq_m, zq_n, zq_o, zq_p, zq_q, zq_r, zq_s, zq_t, zq_u, zq_v, zq_w, zq_x, zq_y, zq_z, zq_A, zq_B, zq_C, zq_D, zq_E, zq_F, zq_G, zq_H, zq_I, zq_J, zq_K, zq_L, ↓zq_M, ↓zq_N, ↓zq_O, ↓zq_P, ↓zq_Q, ↓zq_R, zq_S, zq_T, zq_U, zq_V, zq_W, zq_X, zq_Y, zq_Z, zq_0, zq_1, zq_2, zq_3, zq_4, zq_5, ↓zq_6, ↓zq_7, ↓zq_8, ↓zq_9, ↓zq_aa, zq_ab, zq_ac, zq_ad, zq_ae, zq_af, zq_ag, ↓zq_ah, ↓zq_ai, ↓zq_aj, zq_ak, ↓zq_al, ↓zq_am, e_b1, e_b2, x_o1, x_o2, r_O0, q, w6, w7, k1, k2, c1, c1_n]
theorem y_c184z {P I x4 x5 : Int} {M : EM} (h : x4 < I) (w7 : e_w (x4 + 1) = x4 + 1) : E_V 184 184 [192, P, I, 0, x4, x5] M = E_V 184 184 [192, P, I, 0, x4 + 1, x5] M := by
  rw [E_V_eq]
  show e_tv E_C (E_V 184) e_t184_184 [192, P, I, 0, x4, x5] M = _
  unfold e_t184_184
  simp [zq_a, zq_b, zq_c, zq_d, zq_e, zq_f, zq_g, zq_h, zq_i, zq_j, zq_k, zq_l, zq_m, zq_n, zq_o, zq_p, zq_q, zq_r, zq_s, zq_t, zq_u, zq_v, zq_w, zq_x, zq_y, zq_z, zq_A, zq_B, zq_C, zq_D, zq_E, zq_F, zq_G, zq_H, zq_I, zq_J, zq_K, zq_L, ↓zq_M, ↓zq_N, ↓zq_O, ↓zq_P, ↓zq_Q, ↓zq_R, zq_S, zq_T, zq_U, zq_V, zq_W, zq_X, zq_Y, zq_Z, zq_0, zq_1, zq_2, zq_3, zq_4, zq_5, ↓zq_6, ↓zq_7, ↓zq_8, ↓zq_9, ↓zq_aa, zq_ab, zq_ac, zq_ad, zq_ae, zq_af, zq_ag, ↓zq_ah, ↓zq_ai, ↓zq_aj, zq_ak, ↓zq_al, ↓zq_am, e_b1, e_b2, x_o1, x_o2, h, w7]
theorem y_c184e {P I x3 x4 x5 : Int} {M : EM} (h : ¬ x4 < I) : E_V 184 184 [192, P, I, x3, x4, x5] M = some (x3, M) := by
  rw [E_V_eq]
  show e_tv E_C (E_V 184) e_t184_184 [192, P, I, x3, x4, x5] M = _
  unfold e_t184_184
  simp [zq_a, zq_b, zq_c, zq_d, zq_e, zq_f, zq_g, zq_h, zq_i, zq_j, zq_k, zq_l, zq_m, zq_n, zq_o, zq_p, zq_q, zq_r, zq_s, zq_t, zq_u, zq_v, zq_w, zq_x, zq_y, zq_z, zq_A, zq_B, zq_C, zq_D, zq_E, zq_F, zq_G, zq_H, zq_I, zq_J, zq_K, zq_L, ↓zq_M, ↓zq_N, ↓zq_O, ↓zq_P, ↓zq_Q, ↓zq_R, zq_S, zq_T, zq_U, zq_V, zq_W, zq_X, zq_Y, zq_Z, zq_0, zq_1, zq_2, zq_3, zq_4, zq_5, ↓zq_6, ↓zq_7, ↓zq_8, ↓zq_9, ↓zq_aa, zq_ab, zq_ac, zq_ad, zq_ae, zq_af, zq_ag, ↓zq_ah, ↓zq_ai, ↓zq_aj, zq_ak, ↓zq_al, ↓zq_am, e_b1, e_b2, x_o1, x_o2, h]
theorem y_c184 {P I x5 : Int} {M : EM} (hp : 0 ≤ P ∧ P < 40) (hI : I ≤ 6) : ∀ (m : Nat) (x4 : Int), (I - x4).toNat ≤ m → 1 ≤ x4 → E_V 184 184 [192, P, I, 0, x4, x5] M = some (0, M) ∧ ∃ r, E_V 184 184 [192, P, I, 1, x4, x5] M = some (r, M) ∧ ((r = 1 ∧ ∀ j, x4 ≤ j → j < I → y_up (r_G M) P j) ∨ (r = 0 ∧ ∃ j, x4 ≤ j ∧ j < I ∧ ¬ y_up (r_G M) P j)) := by
  intro m
  induction m with
  | zero =>
    intro x4 hm h4
    have q : ¬ (x4 < I) := by omega
    exact ⟨y_c184e q, 1, y_c184e q, Or.inl ⟨rfl, fun j h1 h2 => by omega⟩⟩
  | succ m ih =>
    intro x4 hm h4
    rcases x_lt x4 I with ⟨q, q_n⟩ | ⟨q, q_n⟩
    · obtain ⟨i1, r, i2, i3⟩ := ih (x4 + 1) (by omega) (by omega)
      have w7 : e_w (x4 + 1) = x4 + 1 := a_w_id (by omega) (by omega)
      obtain ⟨s1, s2⟩ := y_c184s (x5 := x5) (M := M) hp ⟨h4, q⟩ hI
      refine ⟨(y_c184z q w7).trans i1, ?_⟩
      clear w7
      by_cases c : y_up (r_G M) P x4
      · refine ⟨r, (s1 c).trans i2, ?_⟩
        rcases i3 with ⟨e, i3⟩ | ⟨e, j, j1, j2, j3⟩
        · exact Or.inl ⟨e, fun j h1 h2 => by
            by_cases e : j = x4
            · rw [e]; exact c
            · exact i3 j (by omega) h2⟩
        · exact Or.inr ⟨e, j, by omega, j2, j3⟩
      · exact ⟨0, (s2 c).trans i1, Or.inr ⟨rfl, x4, Int.le_refl _, q, c⟩⟩
    · exact ⟨y_c184e q, 1, y_c184e q, Or.inl ⟨rfl, fun j h1 h2 => by omega⟩⟩
/-- the numbers told make a CURVE of m + 1 points -/
def y_cn (X : Nat → Int) (f m : Nat) : Prop := X f = 0 ∧ X (f + 2 * m) ≤ 60 ∧ X (f + 2 * m + 1) = 0 ∧ ∀ j, j < m → X (f + 2 * j) < X (f + 2 * (j + 1)) ∧ X (f + 2 * (j + 1) + 1) < X (f + 2 * j + 1)
theorem y_c101e {P I x3 x4 x5 c ia : Int} {na : Nat} {M M2 : EM} (ks : E_C 177 [192] M = some (c, M)) (hc : c ≠ 32) (v1 : e_w (28 * P) = 28 * P) (v2 : e_w (28 * P + 2) = ia) (s1 : ∀ v, e_st 100 [193, ia, v] M = some (e_up M 193 na v)) (hM2 : e_up M 193 na I = M2) (h : x3 = 0 ∨ ¬ 1 < I) : E_V 184 101 [192, P, I, x3, x4, x5] M = E_V 184 184 [192, P, I, 0, 1, x5] M2 := by
  by_cases c0 : x3 = 0
  · subst c0
    rw [E_V_eq]
    show e_tv E_C (E_V 184) e_t184_101 [192, P, I, 0, x4, x5] M = _
    unfold e_t184_101
    simp [zq_a, zq_b, zq_c, zq_d, zq_e, zq_f, zq_g, zq_h, zq_i, zq_j, zq_k, zq_l, zq_m, zq_n, zq_o, zq_p, zq_q, zq_r, zq_s, zq_t, zq_u, zq_v, zq_w, zq_x, zq_y, zq_z, zq_A, zq_B, zq_C, zq_D, zq_E, zq_F, zq_G, zq_H, zq_I, zq_J, zq_K, zq_L, ↓zq_M, ↓zq_N, ↓zq_O, ↓zq_P, ↓zq_Q, ↓zq_R, zq_S, zq_T, zq_U, zq_V, zq_W, zq_X, zq_Y, zq_Z, zq_0, zq_1, zq_2, zq_3, zq_4, zq_5, ↓zq_6, ↓zq_7, ↓zq_8, ↓zq_9, ↓zq_aa, zq_ab, zq_ac, zq_ad, zq_ae, zq_af, zq_ag, ↓zq_ah, ↓zq_ai, ↓zq_aj, zq_ak, ↓zq_al, ↓zq_am, e_b1, e_b2, x_o1, x_o2, r_O0, ks, hc, v1, v2, s1, hM2]
  · have c1 : ¬ 1 < I := h.resolve_left c0
    rw [E_V_eq]
    show e_tv E_C (E_V 184) e_t184_101 [192, P, I, x3, x4, x5] M = _
    unfold e_t184_101
    simp [zq_a, zq_b, zq_c, zq_d, zq_e, zq_f, zq_g, zq_h, zq_i, zq_j, zq_k, zq_l, zq_m, zq_n, zq_o, zq_p, zq_q, zq_r, zq_s, zq_t, zq_u, zq_v, zq_w, zq_x, zq_y, zq_z, zq_A, zq_B, zq_C, zq_D, zq_E, zq_F, zq_G, zq_H, zq_I, zq_J, zq_K, zq_L, ↓zq_M, ↓zq_N, ↓zq_O, ↓zq_P, ↓zq_Q, ↓zq_R, zq_S, zq_T, zq_U, zq_V, zq_W, zq_X, zq_Y, zq_Z, zq_0, zq_1, zq_2, zq_3, zq_4, zq_5, ↓zq_6, ↓zq_7, ↓zq_8, ↓zq_9, ↓zq_aa, zq_ab, zq_ac, zq_ad, zq_ae, zq_af, zq_ag, ↓zq_ah, ↓zq_ai, ↓zq_aj, zq_ak, ↓zq_al, ↓zq_am, e_b1, e_b2, x_o1, x_o2, r_O0, ks, hc, v1, v2, s1, hM2, c0, c1]
theorem y_c101y {P I x4 x5 c ia A B C t : Int} {na : Nat} {M M2 : EM} (ks : E_C 177 [192] M = some (c, M)) (hc : c ≠ 32) (v1 : e_w (28 * P) = 28 * P) (v2 : e_w (28 * P + 2) = ia) (s1 : ∀ v, e_st 100 [193, ia, v] M = some (e_up M 193 na v)) (hM2 : e_up M 193 na I = M2) (hI : 1 < I) (w3 : e_w (28 * P + 8) = 28 * P + 8) (w4 : e_w (28 * P + 8 + I) = 28 * P + 8 + I) (w5 : e_w (ia + I) = 28 * P + 2 + I) (ko : E_C 172 [192, P, 0] M2 = some (A, M2)) (l1 : e_op 60 [193, 28 * P + 8 + I] M2 = some B) (l2 : e_op 60 [193, 28 * P + 2 + I] M2 = some C) (ht : t = if A = 0 ∧ B = 0 ∧ C ≤ 60 then 1 else 0) : E_V 184 101 [192, P, I, 1, x4, x5] M = E_V 184 184 [192, P, I, t, 1, x5] M2 := by
  by_cases c2 : A = 0
  · by_cases c3 : B = 0
    · rcases x_le C 60 with ⟨c4, c4_n⟩ | ⟨c4, c4_n⟩
      · rw [if_pos ⟨c2, c3, c4⟩] at ht
        subst ht
        rw [E_V_eq]
        show e_tv E_C (E_V 184) e_t184_101 [192, P, I, 1, x4, x5] M = _
        unfold e_t184_101
        simp [zq_a, zq_b, zq_c, zq_d, zq_e, zq_f, zq_g, zq_h, zq_i, zq_j, zq_k, zq_l, zq_m, zq_n, zq_o, zq_p, zq_q, zq_r, zq_s, zq_t, zq_u, zq_v, zq_w, zq_x, zq_y, zq_z, zq_A, zq_B, zq_C, zq_D, zq_E, zq_F, zq_G, zq_H, zq_I, zq_J, zq_K, zq_L, ↓zq_M, ↓zq_N, ↓zq_O, ↓zq_P, ↓zq_Q, ↓zq_R, zq_S, zq_T, zq_U, zq_V, zq_W, zq_X, zq_Y, zq_Z, zq_0, zq_1, zq_2, zq_3, zq_4, zq_5, ↓zq_6, ↓zq_7, ↓zq_8, ↓zq_9, ↓zq_aa, zq_ab, zq_ac, zq_ad, zq_ae, zq_af, zq_ag, ↓zq_ah, ↓zq_ai, ↓zq_aj, zq_ak, ↓zq_al, ↓zq_am, e_b1, e_b2, x_o1, x_o2, r_O0, ks, hc, v1, v2, s1, hM2, hI, w3, w4, w5, ko, l1, l2, c2, c3, c4, c4_n]
      · rw [if_neg (fun e => c4 e.2.2)] at ht
        subst ht
        rw [E_V_eq]
        show e_tv E_C (E_V 184) e_t184_101 [192, P, I, 1, x4, x5] M = _
        unfold e_t184_101
        simp [zq_a, zq_b, zq_c, zq_d, zq_e, zq_f, zq_g, zq_h, zq_i, zq_j, zq_k, zq_l, zq_m, zq_n, zq_o, zq_p, zq_q, zq_r, zq_s, zq_t, zq_u, zq_v, zq_w, zq_x, zq_y, zq_z, zq_A, zq_B, zq_C, zq_D, zq_E, zq_F, zq_G, zq_H, zq_I, zq_J, zq_K, zq_L, ↓zq_M, ↓zq_N, ↓zq_O, ↓zq_P, ↓zq_Q, ↓zq_R, zq_S, zq_T, zq_U, zq_V, zq_W, zq_X, zq_Y, zq_Z, zq_0, zq_1, zq_2, zq_3, zq_4, zq_5, ↓zq_6, ↓zq_7, ↓zq_8, ↓zq_9, ↓zq_aa, zq_ab, zq_ac, zq_ad, zq_ae, zq_af, zq_ag, ↓zq_ah, ↓zq_ai, ↓zq_aj, zq_ak, ↓zq_al, ↓zq_am, e_b1, e_b2, x_o1, x_o2, r_O0, ks, hc, v1, v2, s1, hM2, hI, w3, w4, w5, ko, l1, l2, c2, c3, c4, c4_n]
    · rw [if_neg (fun e => c3 e.2.1)] at ht
      subst ht
      rw [E_V_eq]
      show e_tv E_C (E_V 184) e_t184_101 [192, P, I, 1, x4, x5] M = _
      unfold e_t184_101
      simp [zq_a, zq_b, zq_c, zq_d, zq_e, zq_f, zq_g, zq_h, zq_i, zq_j, zq_k, zq_l, zq_m, zq_n, zq_o, zq_p, zq_q, zq_r, zq_s, zq_t, zq_u, zq_v, zq_w, zq_x, zq_y, zq_z, zq_A, zq_B, zq_C, zq_D, zq_E, zq_F, zq_G, zq_H, zq_I, zq_J, zq_K, zq_L, ↓zq_M, ↓zq_N, ↓zq_O, ↓zq_P, ↓zq_Q, ↓zq_R, zq_S, zq_T, zq_U, zq_V, zq_W, zq_X, zq_Y, zq_Z, zq_0, zq_1, zq_2, zq_3, zq_4, zq_5, ↓zq_6, ↓zq_7, ↓zq_8, ↓zq_9, ↓zq_aa, zq_ab, zq_ac, zq_ad, zq_ae, zq_af, zq_ag, ↓zq_ah, ↓zq_ai, ↓zq_aj, zq_ak, ↓zq_al, ↓zq_am, e_b1, e_b2, x_o1, x_o2, r_O0, ks, hc, v1, v2, s1, hM2, hI, w3, w4, w5, ko, l1, l2, c2, c3]
  · rw [if_neg (fun e => c2 e.1)] at ht
    subst ht
    rw [E_V_eq]
    show e_tv E_C (E_V 184) e_t184_101 [192, P, I, 1, x4, x5] M = _
    unfold e_t184_101
    simp [zq_a, zq_b, zq_c, zq_d, zq_e, zq_f, zq_g, zq_h, zq_i, zq_j, zq_k, zq_l, zq_m, zq_n, zq_o, zq_p, zq_q, zq_r, zq_s, zq_t, zq_u, zq_v, zq_w, zq_x, zq_y, zq_z, zq_A, zq_B, zq_C, zq_D, zq_E, zq_F, zq_G, zq_H, zq_I, zq_J, zq_K, zq_L, ↓zq_M, ↓zq_N, ↓zq_O, ↓zq_P, ↓zq_Q, ↓zq_R, zq_S, zq_T, zq_U, zq_V, zq_W, zq_X, zq_Y, zq_Z, zq_0, zq_1, zq_2, zq_3, zq_4, zq_5, ↓zq_6, ↓zq_7, ↓zq_8, ↓zq_9, ↓zq_aa, zq_ab, zq_ac, zq_ad, zq_ae, zq_af, zq_ag, ↓zq_ah, ↓zq_ai, ↓zq_aj, zq_ak, ↓zq_al, ↓zq_am, e_b1, e_b2, x_o1, x_o2, r_O0, ks, hc, v1, v2, s1, hM2, hI, w3, w4, w5, ko, l1, l2, c2]
end
section
/-! the reference makes a CELL: point by point -/
def y_IC (g0 : Int → Int) (p : Nat) (X : Nat → Int) (f i : Nat) (M : EM) (x2 x3 : Int) : Prop := (0 ≤ x2 ∧ x2 ≤ 6) ∧ ((x3 = 1 ∧ x2 = i ∧ i ≤ 6 ∧ (∀ j, j < i → r_G M (28 * (p : Int) + 3 + j) = X (f + 2 * j) ∧ r_G M (28 * (p : Int) + 9 + j) = X (f + 2 * j + 1)) ∧ (∀ x, 0 ≤ x → (x < 28 * (p : Int) ∨ 28 * (p : Int) + 28 ≤ x) → r_G M x = g0 x) ∧ y_bl g0 (r_G M) p (fun x => (3 ≤ x ∧ x < 3 + i) ∨ (9 ≤ x ∧ x < 9 + i))) ∨ (x3 = 0 ∧ 6 < i))
def y_CE (b : Nat → Int) (n : Nat) (N : EM) (g0 : Int → Int) (p : Nat) (X : Nat → Int) (f k i : Nat) (o : EO) : Prop := ∃ r M' k' l, o = some (r, M') ∧ y_B b n k' M' ∧ y_fr N M' ∧ k < k' ∧ k' < n ∧ b k' = 59 ∧ y_rd b n k' ∧ w_T b k' 5 = 0 ∧ w_T b k' 3 = 99 ∧ w_T b k' 4 = 1 ∧ w_T b k' 7 = w_T b (k + 1) 7 ∧ i < l ∧ w_T b k' 8 = ((f + 2 * l : Nat) : Int) ∧ ((r = 1 ∧ 2 ≤ l ∧ l ≤ 6 ∧ y_cn X f (l - 1) ∧ (∀ j, j < l → r_G M' (28 * (p : Int) + 3 + j) = X (f + 2 * j) ∧ r_G M' (28 * (p : Int) + 9 + j) = X (f + 2 * j + 1)) ∧ (∀ x, 0 ≤ x → (x < 28 * (p : Int) ∨ 28 * (p : Int) + 28 ≤ x) → r_G M' x = g0 x) ∧ y_bl g0 (r_G M') p (fun x => x = 2 ∨ (3 ≤ x ∧ x < 15)) ∧ r_G M' (28 * (p : Int) + 2) = l) ∨ (r = 0 ∧ ¬ (2 ≤ l ∧ l ≤ 6 ∧ y_cn X f (l - 1))))
section YCE
variable {b : Nat → Int} {n : Nat} {p : Nat} {N : EM} {X : Nat → Int} {g0 : Int → Int} {f : Nat}
theorem y_cws {P I : Int} (hp : 0 ≤ P ∧ P < 40) (hi : 0 ≤ I ∧ I ≤ 6) : e_w (28 * P) = 28 * P ∧ e_w (28 * P + 2) = 28 * P + 2 ∧ e_w (28 * P + 2 + I) = 28 * P + 2 + I ∧ e_w (28 * P + 3) = 28 * P + 3 ∧ e_w (28 * P + 3 + I) = 28 * P + 3 + I ∧ e_w (28 * P + 8) = 28 * P + 8 ∧ e_w (28 * P + 8 + I) = 28 * P + 8 + I ∧ e_w (28 * P + 9) = 28 * P + 9 ∧ e_w (28 * P + 9 + I) = 28 * P + 9 + I ∧ e_w (I + 1) = I + 1 := by
  refine ⟨?_, ?_, ?_, ?_, ?_, ?_, ?_, ?_, ?_, ?_⟩ <;> exact a_w_id (by omega) (by omega)
/-- at the end: whether it is a CURVE -/
theorem y_cend (hp : p < 40) {k : Nat} {M : EM} {x2 x3 x4 x5 : Int} {l : Nat} (hl : 1 ≤ l) (hB : y_B b n k M) (hk : k < n) (hf : y_fr N M) (h59 : b k = 59) (hI : y_IC g0 p X f l M x2 x3) : ∃ r M', E_V 184 101 [192, (p : Int), x2, x3, x4, x5] M = some (r, M') ∧ y_B b n k M' ∧ y_fr N M' ∧ ((r = 1 ∧ 2 ≤ l ∧ l ≤ 6 ∧ y_cn X f (l - 1) ∧ (∀ j, j < l → r_G M' (28 * (p : Int) + 3 + j) = X (f + 2 * j) ∧ r_G M' (28 * (p : Int) + 9 + j) = X (f + 2 * j + 1)) ∧ (∀ x, 0 ≤ x → (x < 28 * (p : Int) ∨ 28 * (p : Int) + 28 ≤ x) → r_G M' x = g0 x) ∧ y_bl g0 (r_G M') p (fun x => x = 2 ∨ (3 ≤ x ∧ x < 15)) ∧ r_G M' (28 * (p : Int) + 2) = l) ∨ (r = 0 ∧ ¬ (2 ≤ l ∧ l ≤ 6 ∧ y_cn X f (l - 1)))) := by
  have ks := r_sign (y_ty hB)
  rw [y_sg hB, y_sb hk, h59] at ks
  obtain ⟨i1, i2⟩ := hI
  have b1 : 0 ≤ 28 * (p : Int) + 2 ∧ 28 * (p : Int) + 2 < 1330 := by omega
  have hk1 : 28 * (p : Int) + 2 ≥ 1 := by omega
  have hp' : 0 ≤ (p : Int) ∧ (p : Int) < 40 := by omega
  have s1 := fun v => r_stw (i := 28 * (p : Int) + 2) (v := v) (M := M) b1.1 b1.2
  obtain ⟨M2, hM2⟩ : ∃ M2, e_up M 193 (28 * (p : Int) + 2).toNat x2 = M2 := ⟨_, rfl⟩
  have Gs : r_G M2 (28 * (p : Int) + 2) = x2 := by rw [← hM2]; exact r_G_s
  have Gn : ∀ x, x ≠ 28 * (p : Int) + 2 → r_G M2 x = r_G M x := fun x hx => by rw [← hM2]; exact r_G_n hk1 hx
  have BN : y_B b n k M2 := by rw [← hM2]; exact y_Bw hB ⟨by omega, by omega⟩
  have fN : y_fr N M2 := by rw [← hM2]; exact y_frw hf
  obtain ⟨j0, r, j1, j2⟩ := y_c184 (P := (p : Int)) (I := x2) (x5 := x5) (M := M2) hp' i1.2 _ 1 (Nat.le_refl _) (Int.le_refl _)
  rcases i2 with ⟨e1, e2, e3, e4, e5, e6⟩ | ⟨e1, e2⟩
  · subst e1
    rcases x_lt 1 x2 with ⟨c1, c1_n⟩ | ⟨c1, c1_n⟩
    · have l2 : 2 ≤ l := by omega
      obtain ⟨m, rfl⟩ : ∃ m, l = m + 1 := ⟨l - 1, by omega⟩
      have hm : m + 1 - 1 = m := by omega
      rw [hm]
      obtain ⟨u1, -⟩ := e4 0 (by omega)
      obtain ⟨u3, u4⟩ := e4 m (by omega)
      have hg0 : r_G M2 (28 * (p : Int) + 3) = X f := by
        rw [Gn _ (by omega)]
        have h0 : r_G M (28 * (p : Int) + 3 + ((0 : Nat) : Int)) = X f := u1
        rw [show 28 * (p : Int) + 3 + ((0 : Nat) : Int) = 28 * (p : Int) + 3 by omega] at h0
        exact h0
      have hgB : r_G M2 (28 * (p : Int) + 8 + x2) = X (f + 2 * m + 1) := by
        rw [Gn _ (by omega), ← u4]
        exact congrArg (r_G M) (by omega)
      have hgC : r_G M2 (28 * (p : Int) + 2 + x2) = X (f + 2 * m) := by
        rw [Gn _ (by omega), ← u3]
        exact congrArg (r_G M) (by omega)
      have ko : E_C 172 [192, (p : Int), 0] M2 = some (r_G M2 (28 * (p : Int) + 3 + 0), M2) := r_of (M := M2) (p := (p : Int)) (k := 0) hp' ⟨by decide, by decide⟩
      rw [Int.add_zero, hg0] at ko
      have q1 : e_op 60 [193, 28 * (p : Int) + 8 + x2] M2 = some (r_G M2 (28 * (p : Int) + 8 + x2)) := r_rd (by omega) (by omega)
      have q2 : e_op 60 [193, 28 * (p : Int) + 2 + x2] M2 = some (r_G M2 (28 * (p : Int) + 2 + x2)) := r_rd (by omega) (by omega)
      rw [hgB] at q1
      rw [hgC] at q2
      have rise : ∀ j : Nat, j < m → (y_up (r_G M2) (p : Int) ((j : Int) + 1) ↔ (X (f + 2 * j) < X (f + 2 * (j + 1)) ∧ X (f + 2 * (j + 1) + 1) < X (f + 2 * j + 1))) := fun j hj => by
        obtain ⟨v1, v2⟩ := e4 j (by omega)
        obtain ⟨v3, v4⟩ := e4 (j + 1) (by omega)
        unfold y_up
        rw [← v1, ← v2, ← v3, ← v4, Gn _ (by omega), Gn _ (by omega), Gn _ (by omega), Gn _ (by omega)]
        have a1 : 28 * (p : Int) + 3 + ((j : Int) + 1 - 1) = 28 * (p : Int) + 3 + (j : Int) := by omega
        have a2 : 28 * (p : Int) + 3 + ((j : Int) + 1) = 28 * (p : Int) + 3 + ((j + 1 : Nat) : Int) := by omega
        have a3 : 28 * (p : Int) + 9 + ((j : Int) + 1) = 28 * (p : Int) + 9 + ((j + 1 : Nat) : Int) := by omega
        have a4 : 28 * (p : Int) + 8 + ((j : Int) + 1) = 28 * (p : Int) + 9 + (j : Int) := by omega
        rw [a1, a2, a3, a4]
      have goal : ∀ t : Int, (t = if X f = 0 ∧ X (f + 2 * m + 1) = 0 ∧ X (f + 2 * m) ≤ 60 then 1 else 0) → E_V 184 101 [192, (p : Int), x2, 1, x4, x5] M = E_V 184 184 [192, (p : Int), x2, t, 1, x5] M2 := fun t ht => by
        obtain ⟨w1, w2, w3, -, -, w6, w7, -⟩ := y_cws (P := (p : Int)) (I := x2) hp' i1
        exact y_c101y ks (by decide) w1 w2 s1 hM2 c1 w6 w7 w3 ko q1 q2 ht
      by_cases c2 : X f = 0 ∧ X (f + 2 * m + 1) = 0 ∧ X (f + 2 * m) ≤ 60
      · have gg := goal 1 (by rw [if_pos c2])
        refine ⟨r, M2, gg.trans j1, BN, fN, ?_⟩
        rcases j2 with ⟨r1, r2⟩ | ⟨r1, j, r2, r3, r4⟩
        · refine Or.inl ⟨r1, l2, e3, ⟨c2.1, c2.2.2, c2.2.1, fun j hj => (rise j hj).mp (r2 _ (by omega) (by omega))⟩, fun j hj => ⟨(Gn _ (by omega)).trans (e4 j hj).1, (Gn _ (by omega)).trans (e4 j hj).2⟩, fun x x0 hx => (Gn _ (by omega)).trans (e5 x x0 hx), fun x x0 x1 hs => (Gn _ (fun e => hs (Or.inl (by omega)))).trans (e6 x x0 x1 (fun e => hs (by omega))), by rw [Gs, e2]⟩
        · refine Or.inr ⟨r1, fun h => r4 ?_⟩
          obtain ⟨i, rfl⟩ : ∃ i : Nat, j = (i : Int) + 1 := ⟨(j - 1).toNat, by omega⟩
          exact (rise i (by omega)).mpr (h.2.2.2.2.2 i (by omega))
      · have gg := goal 0 (by rw [if_neg c2])
        exact ⟨0, M2, gg.trans j0, BN, fN, Or.inr ⟨rfl, fun h => c2 ⟨h.2.2.1, h.2.2.2.2.1, h.2.2.2.1⟩⟩⟩
    · have gg : E_V 184 101 [192, (p : Int), x2, 1, x4, x5] M = E_V 184 184 [192, (p : Int), x2, 0, 1, x5] M2 := by
        obtain ⟨w1, w2, -⟩ := y_cws (P := (p : Int)) (I := x2) hp' i1
        exact y_c101e ks (by decide) w1 w2 s1 hM2 (Or.inr c1)
      exact ⟨0, M2, gg.trans j0, BN, fN, Or.inr ⟨rfl, fun h => by omega⟩⟩
  · subst e1
    have gg : E_V 184 101 [192, (p : Int), x2, 0, x4, x5] M = E_V 184 184 [192, (p : Int), x2, 0, 1, x5] M2 := by
      obtain ⟨w1, w2, -⟩ := y_cws (P := (p : Int)) (I := x2) hp' i1
      exact y_c101e ks (by decide) w1 w2 s1 hM2 (Or.inl rfl)
    exact ⟨0, M2, gg.trans j0, BN, fN, Or.inr ⟨rfl, fun h => by omega⟩⟩
theorem y_c4 (hA : w_A b n) (hz : w_T b n 2 = 0) (hp : p < 40) (hX : y_X b n X) : ∀ (m k : Nat) (M : EM) (x2 x3 x4 x5 : Int) (i : Nat), n - k ≤ m → y_B b n k M → k < n → y_fr N M → w_T b (k + 1) 2 = 1 → w_T b (k + 1) 3 = 99 → w_T b (k + 1) 4 = 0 → w_T b (k + 1) 5 = 0 → w_T b (k + 1) 8 = ((f + 2 * i : Nat) : Int) → y_IC g0 p X f i M x2 x3 → y_CE b n N g0 p X f k i (E_V 184 4 [192, (p : Int), x2, x3, x4, x5] M) := by
  intro m
  induction m with
  | zero =>
    intro k M x2 x3 x4 x5 i hm hB hk
    omega
  | succ m ih =>
    intro k M x2 x3 x4 x5 i hm hB hk hf h2 h3 h4 h5 h8 hI
    obtain ⟨o1, o2⟩ := y_on hB hk
    have A1 := w_Al hA (show k + 1 ≤ n by omega)
    have h15 := hB.2.1
    have dg := y_dig hA hz o2.2.2.1 h2 (by omega)
    obtain ⟨k1, M2, g2, t2, B2, ⟨z1, z2, z3, z4, z5, z6, z7, z8, z9, z10, z11⟩, num⟩ := (y_num o2 A1 h2).2 dg
    obtain ⟨l1, sg⟩ := y_sig hA hz z2 z5
    have e47 : b k1 = 47 := by omega
    obtain ⟨a1, a2, a3, a4, a5, a6, a7, a8⟩ := y_sla z4 z5 l1 e47 (by omega) (by omega)
    obtain ⟨o3, o4⟩ := y_on B2 l1
    have dg2 := y_dig hA hz o4.2.2.1 a2 (by omega)
    obtain ⟨k2, M4, g4, t4, B4, ⟨y1, y2, y3, y4, y5, y6, y7, y8, y9, y10, y11⟩, num2⟩ := (y_num o4 a1 a2).2 dg2
    obtain ⟨l2, sg2⟩ := y_sig hA hz y2 y5
    have hx1 := hX (k + 1) dg.1 z3
    rw [h8, Int.toNat_natCast, ← num] at hx1
    have hx2 := hX (k1 + 1) dg2.1 y3
    have h8' : w_T b (k1 + 1) 8 = ((f + 2 * i + 1 : Nat) : Int) := by omega
    rw [h8', Int.toNat_natCast, ← num2] at hx2
    have v1 := y_v99 (n := n) z3
    rw [← num] at v1
    have v2 := y_v99 (n := n) y3
    rw [← num2] at v2
    have f4 : y_fr N M4 := y_fr_t (y_fr_t (y_fr_t (y_fr_t hf o1) t2) o3) t4
    have eG : r_G M4 = r_G M := (y_G_t t4).trans ((y_G_t o3).trans ((y_G_t t2).trans (y_G_t o1)))
    have h15' := B2.2.1
    obtain ⟨M1, hM1⟩ : ∃ M1, e_up M 192 15 ((k : Int) + 1) = M1 := ⟨_, rfl⟩
    obtain ⟨M3, hM3⟩ : ∃ M3, e_up M2 192 15 ((k1 : Int) + 1) = M3 := ⟨_, rfl⟩
    rw [hM1] at g2
    rw [hM3] at g4
    have s59 : b k2 = 32 ∨ b k2 = 59 := by omega
    -- behind the point
    have tail : ∀ (N1 : EM) (y2 y3 y5' : Int), y_B b n k2 N1 → y_fr N N1 → y_IC g0 p X f (i + 1) N1 y2 y3 → y_CE b n N g0 p X f k i (E_V 184 101 [192, (p : Int), y2, y3, 1, y5'] N1) := by
      intro N1 w2 w3 w5 BN fN IN
      rcases s59 with c | c
      · obtain ⟨c1, c2, c3, c4, c5, c6, c7, c8⟩ := y_spc y4 y5 l2 c (by omega) (by omega)
        have ks := r_sign (y_ty BN)
        rw [y_sg BN, y_sb l2, c] at ks
        obtain ⟨r, M', k', l, u1, u2, u3, u4, u5, u6, u7, u8, u9, u10, u11, u12, u13⟩ := ih k2 N1 w2 w3 1 w5 (i + 1) (by omega) BN l2 fN c2 (by omega) c4 (by omega) (by omega) IN
        exact ⟨r, M', k', l, (y_c101a ks).trans u1, u2, u3, by omega, u5, u6, u7, u8, u9, u10, by omega, by omega, u13⟩
      · obtain ⟨r, M', u1, u2, u3, u4⟩ := y_cend (x4 := 1) (x5 := w5) hp (l := i + 1) (by omega) BN l2 fN c IN
        exact ⟨r, M', k2, i + 1, u1, u2, u3, by omega, l2, c, y5, by omega, by omega, by omega, by omega, by omega, by omega, u4⟩
    obtain ⟨i1, i2⟩ := hI
    rw [← eG] at i2
    by_cases c : x3 = 1 ∧ i < 6
    · obtain ⟨c0, c1⟩ := c
      have i2 := i2.resolve_right (fun e => absurd (e.1.symm.trans c0) (by decide))
      obtain ⟨e1, e2, e3, e4, e5, e6⟩ := i2
      subst e1
      subst e2
      have b0 : 0 ≤ (28 * (p : Int) + 3 + (i : Int)) ∧ (28 * (p : Int) + 3 + (i : Int)) < 1330 := by omega
      have b1 : 0 ≤ (28 * (p : Int) + 9 + (i : Int)) ∧ (28 * (p : Int) + 9 + (i : Int)) < 1330 := by omega
      have s1 := fun v => r_stw (i := 28 * (p : Int) + 3 + (i : Int)) (v := v) (M := M4) b0.1 b0.2
      have s2 := fun v M => r_stw (i := 28 * (p : Int) + 9 + (i : Int)) (v := v) (M := M) b1.1 b1.2
      have hk1 : 28 * (p : Int) + 3 + (i : Int) ≥ 1 := by omega
      have hk2 : 28 * (p : Int) + 9 + (i : Int) ≥ 1 := by omega
      have n12 : (28 * (p : Int) + 3 + (i : Int)) ≠ 28 * (p : Int) + 9 + (i : Int) := by omega
      obtain ⟨N1, hN1⟩ : ∃ N1, e_up (e_up M4 193 (28 * (p : Int) + 3 + (i : Int)).toNat (M2 192 18)) 193 (28 * (p : Int) + 9 + (i : Int)).toNat (M4 192 18) = N1 := ⟨_, rfl⟩
      have G1 : r_G N1 (28 * (p : Int) + 3 + (i : Int)) = M2 192 18 := by rw [← hN1]; exact (r_G_n hk2 n12).trans r_G_s
      have G2 : r_G N1 (28 * (p : Int) + 9 + (i : Int)) = M4 192 18 := by rw [← hN1]; exact r_G_s
      have G3 : ∀ x, x ≠ 28 * (p : Int) + 3 + (i : Int) → x ≠ 28 * (p : Int) + 9 + (i : Int) → r_G N1 x = r_G M4 x := fun x x1 x2 => by rw [← hN1]; exact (r_G_n hk2 x2).trans (r_G_n hk1 x1)
      have BN : y_B b n k2 N1 := by rw [← hN1]; exact y_Bw (y_Bw B4 ⟨by omega, by omega⟩) ⟨by omega, by omega⟩
      have fN : y_fr N N1 := by rw [← hN1]; exact y_frw (y_frw f4)
      have I1 : y_IC g0 p X f (i + 1) N1 ((i : Int) + 1) 1 := by
        clear s1 s2 tail ih g2 g4 hN1 hM1 hM3
        refine ⟨by omega, Or.inl ⟨rfl, by omega, by omega, fun j hj => ?_, fun x x0 hx => ?_, fun x x0 x1 hs => ?_⟩⟩
        · by_cases e : j = i
          · subst e
            exact ⟨G1.trans hx1.symm, G2.trans hx2.symm⟩
          · obtain ⟨u1, u2⟩ := e4 j (by omega)
            exact ⟨(G3 _ (by omega) (by omega)).trans u1, (G3 _ (by omega) (by omega)).trans u2⟩
        · exact (G3 _ (by omega) (by omega)).trans (e5 x x0 hx)
        · rw [G3 _ (fun e => hs (Or.inl ⟨by omega, by omega⟩)) (fun e => hs (Or.inr ⟨by omega, by omega⟩))]
          exact e6 x x0 x1 (fun e => hs (by omega))
      have T := tail N1 ((i : Int) + 1) 1 (M2 192 18) BN fN I1
      have c1i : (i : Int) < 6 := by omega
      have hp' : 0 ≤ (p : Int) ∧ (p : Int) < 40 := by omega
      have wk := y_k1 hB
      have wk1 := y_k1 B2
      obtain ⟨w1, -, -, w4, w5, -, -, w8, w9, w10⟩ := y_cws (P := (p : Int)) (I := (i : Int)) hp' i1
      rw [y_c4y h15 wk hM1 g2 rfl h15' wk1 hM3 g4 rfl c1i w1 w4 w5 w8 w9 w10 s1 s2 hN1]
      exact T
    · have I1 : y_IC g0 p X f (i + 1) M4 x2 0 := by
        refine ⟨i1, Or.inr ⟨rfl, ?_⟩⟩
        rcases i2 with i2 | i2
        · have : ¬ i < 6 := fun e => c ⟨i2.1, e⟩
          omega
        · omega
      have hx : x3 = 0 ∨ ¬ x2 < 6 := by
        rcases i2 with i2 | i2
        · have : ¬ i < 6 := fun e => c ⟨i2.1, e⟩
          exact Or.inr (by omega)
        · exact Or.inl i2.1
      have T := tail M4 x2 0 (M2 192 18) B4 f4 I1
      rw [y_c4n h15 (y_k1 hB) hM1 g2 rfl h15' (y_k1 B2) hM3 g4 hx]
      exact T
end YCE
end
section
/-! the reference makes the PART of a STATEMENT: exactly -/
theorem y_m0 {M : EM} (h : e_op 60 [193, 1198] M = some 40) : E_C 188 [192] M = some (0, M) := by
  rw [r_ent (show e_rok 188 [192] = true from decide_eq_true r_ref)]
  show e_tv E_C (E_V 188) e_t188_0 [192, 0, 0, 0, 0] M = _
  unfold e_t188_0
  simp [zq_a, zq_b, zq_c, zq_d, zq_e, zq_f, zq_g, zq_h, zq_i, zq_j, zq_k, zq_l, zq_m, zq_n, zq_o, zq_p, zq_q, zq_r, zq_s, zq_t, zq_u, zq_v, zq_w, zq_x, zq_y, zq_z, zq_A, zq_B, zq_C, zq_D, zq_E, zq_F, zq_G, zq_H, zq_I, zq_J, zq_K, zq_L, ↓zq_M, ↓zq_N, ↓zq_O, ↓zq_P, ↓zq_Q, ↓zq_R, zq_S, zq_T, zq_U, zq_V, zq_W, zq_X, zq_Y, zq_Z, zq_0, zq_1, zq_2, zq_3, zq_4, zq_5, ↓zq_6, ↓zq_7, ↓zq_8, ↓zq_9, ↓zq_aa, zq_ab, zq_ac, zq_ad, zq_ae, zq_af, zq_ag, ↓zq_ah, ↓zq_ai, ↓zq_aj, zq_ak, ↓zq_al, ↓zq_am, e_b1, e_b2, x_o1, x_o2, r_O0, h]
theorem y_m1 {P : Int} {M : EM} (h : e_op 60 [193, 1198] M = some P) (hp : P ≠ 40) : E_C 188 [192] M = E_V 188 19 [192, P, 0, 0, 0] M := by
  rw [r_ent (show e_rok 188 [192] = true from decide_eq_true r_ref)]
  show e_tv E_C (E_V 188) e_t188_0 [192, 0, 0, 0, 0] M = _
  unfold e_t188_0
  simp [zq_a, zq_b, zq_c, zq_d, zq_e, zq_f, zq_g, zq_h, zq_i, zq_j, zq_k, zq_l, zq_m, zq_n, zq_o, zq_p, zq_q, zq_r, zq_s, zq_t, zq_u, zq_v, zq_w, zq_x, zq_y, zq_z, zq_A, zq_B, zq_C, zq_D, zq_E, zq_F, zq_G, zq_H, zq_I, zq_J, zq_K, zq_L, ↓zq_M, ↓zq_N, ↓zq_O, ↓zq_P, ↓zq_Q, ↓zq_R, zq_S, zq_T, zq_U, zq_V, zq_W, zq_X, zq_Y, zq_Z, zq_0, zq_1, zq_2, zq_3, zq_4, zq_5, ↓zq_6, ↓zq_7, ↓zq_8, ↓zq_9, ↓zq_aa, zq_ab, zq_ac, zq_ad, zq_ae, zq_af, zq_ag, ↓zq_ah, ↓zq_ai, ↓zq_aj, zq_ak, ↓zq_al, ↓zq_am, e_b1, e_b2, x_o1, x_o2, r_O0, h, hp]
theorem y_m19 {P x2 x4 ia y : Int} {na : Nat} {M : EM} (h : x2 < 28) (v1 : e_w (28 * P) = 28 * P) (v2 : e_w (28 * P + x2) = ia) (s1 : ∀ v, e_st 100 [193, ia, v] M = some (e_up M 193 na v)) (w : e_w (x2 + 1) = y) : E_V 188 19 [192, P, x2, 0, x4] M = E_V 188 19 [192, P, y, 0, x4] (e_up M 193 na 0) := by
  rw [E_V_eq]
  show e_tv E_C (E_V 188) e_t188_19 [192, P, x2, 0, x4] M = _
  unfold e_t188_19
  simp [zq_a, zq_b, zq_c, zq_d, zq_e, zq_f, zq_g, zq_h, zq_i, zq_j, zq_k, zq_l, zq_m, zq_n, zq_o, zq_p, zq_q, zq_r, zq_s, zq_t, zq_u, zq_v, zq_w, zq_x, zq_y, zq_z, zq_A, zq_B, zq_C, zq_D, zq_E, zq_F, zq_G, zq_H, zq_I, zq_J, zq_K, zq_L, ↓zq_M, ↓zq_N, ↓zq_O, ↓zq_P, ↓zq_Q, ↓zq_R, zq_S, zq_T, zq_U, zq_V, zq_W, zq_X, zq_Y, zq_Z, zq_0, zq_1, zq_2, zq_3, zq_4, zq_5, ↓zq_6, ↓zq_7, ↓zq_8, ↓zq_9, ↓zq_aa, zq_ab, zq_ac, zq_ad, zq_ae, zq_af, zq_ag, ↓zq_ah, ↓zq_ai, ↓zq_aj, zq_ak, ↓zq_al, ↓zq_am, e_b1, e_b2, x_o1, x_o2, r_O0, h, v1, v2, s1, w]
theorem y_mC {P x4 r ia ib : Int} {na nb : Nat} {M M' : EM} (ks : E_C 177 [192] M = some (99, M)) (v1 : e_w (28 * P) = ia) (s1 : ∀ v, e_st 100 [193, ia, v] M = some (e_up M 193 na v)) (k : E_C 184 [192, P] (e_up M 193 na 0) = some (r, M')) (v2 : e_w (ia + 15) = ib) (s2 : ∀ v, e_st 100 [193, ib, v] M' = some (e_up M' 193 nb v)) : E_V 188 19 [192, P, 28, 0, x4] M = E_V 188 159 [192, P, 99, 0, r] (e_up M' 193 nb 100) := by
  rw [E_V_eq]
  show e_tv E_C (E_V 188) e_t188_19 [192, P, 28, 0, x4] M = _
  unfold e_t188_19
  simp [zq_a, zq_b, zq_c, zq_d, zq_e, zq_f, zq_g, zq_h, zq_i, zq_j, zq_k, zq_l, zq_m, zq_n, zq_o, zq_p, zq_q, zq_r, zq_s, zq_t, zq_u, zq_v, zq_w, zq_x, zq_y, zq_z, zq_A, zq_B, zq_C, zq_D, zq_E, zq_F, zq_G, zq_H, zq_I, zq_J, zq_K, zq_L, ↓zq_M, ↓zq_N, ↓zq_O, ↓zq_P, ↓zq_Q, ↓zq_R, zq_S, zq_T, zq_U, zq_V, zq_W, zq_X, zq_Y, zq_Z, zq_0, zq_1, zq_2, zq_3, zq_4, zq_5, ↓zq_6, ↓zq_7, ↓zq_8, ↓zq_9, ↓zq_aa, zq_ab, zq_ac, zq_ad, zq_ae, zq_af, zq_ag, ↓zq_ah, ↓zq_ai, ↓zq_aj, zq_ak, ↓zq_al, ↓zq_am, e_b1, e_b2, x_o1, x_o2, r_O0, ks, v1, s1, k, v2, s2]
theorem y_mR {P x4 r ia : Int} {na : Nat} {M M' : EM} (ks : E_C 177 [192] M = some (114, M)) (v1 : e_w (28 * P) = ia) (s1 : ∀ v, e_st 100 [193, ia, v] M = some (e_up M 193 na v)) (k : E_C 186 [192, P] (e_up M 193 na 1) = some (r, M')) : E_V 188 19 [192, P, 28, 0, x4] M = E_V 188 159 [192, P, 114, 1, r] M' := by
  rw [E_V_eq]
  show e_tv E_C (E_V 188) e_t188_19 [192, P, 28, 0, x4] M = _
  unfold e_t188_19
  simp [zq_a, zq_b, zq_c, zq_d, zq_e, zq_f, zq_g, zq_h, zq_i, zq_j, zq_k, zq_l, zq_m, zq_n, zq_o, zq_p, zq_q, zq_r, zq_s, zq_t, zq_u, zq_v, zq_w, zq_x, zq_y, zq_z, zq_A, zq_B, zq_C, zq_D, zq_E, zq_F, zq_G, zq_H, zq_I, zq_J, zq_K, zq_L, ↓zq_M, ↓zq_N, ↓zq_O, ↓zq_P, ↓zq_Q, ↓zq_R, zq_S, zq_T, zq_U, zq_V, zq_W, zq_X, zq_Y, zq_Z, zq_0, zq_1, zq_2, zq_3, zq_4, zq_5, ↓zq_6, ↓zq_7, ↓zq_8, ↓zq_9, ↓zq_aa, zq_ab, zq_ac, zq_ad, zq_ae, zq_af, zq_ag, ↓zq_ah, ↓zq_ai, ↓zq_aj, zq_ak, ↓zq_al, ↓zq_am, e_b1, e_b2, x_o1, x_o2, r_O0, ks, v1, s1, k]
theorem y_mF {P x4 r ia : Int} {na : Nat} {M M' : EM} (ks : E_C 177 [192] M = some (102, M)) (v1 : e_w (28 * P) = ia) (s1 : ∀ v, e_st 100 [193, ia, v] M = some (e_up M 193 na v)) (k : E_C 187 [192, P, 6, 3] (e_up M 193 na 2) = some (r, M')) : E_V 188 19 [192, P, 28, 0, x4] M = E_V 188 159 [192, P, 102, 2, r] M' := by
  rw [E_V_eq]
  show e_tv E_C (E_V 188) e_t188_19 [192, P, 28, 0, x4] M = _
  unfold e_t188_19
  simp [zq_a, zq_b, zq_c, zq_d, zq_e, zq_f, zq_g, zq_h, zq_i, zq_j, zq_k, zq_l, zq_m, zq_n, zq_o, zq_p, zq_q, zq_r, zq_s, zq_t, zq_u, zq_v, zq_w, zq_x, zq_y, zq_z, zq_A, zq_B, zq_C, zq_D, zq_E, zq_F, zq_G, zq_H, zq_I, zq_J, zq_K, zq_L, ↓zq_M, ↓zq_N, ↓zq_O, ↓zq_P, ↓zq_Q, ↓zq_R, zq_S, zq_T, zq_U, zq_V, zq_W, zq_X, zq_Y, zq_Z, zq_0, zq_1, zq_2, zq_3, zq_4, zq_5, ↓zq_6, ↓zq_7, ↓zq_8, ↓zq_9, ↓zq_aa, zq_ab, zq_ac, zq_ad, zq_ae, zq_af, zq_ag, ↓zq_ah, ↓zq_ai, ↓zq_aj, zq_ak, ↓zq_al, ↓zq_am, e_b1, e_b2, x_o1, x_o2, r_O0, ks, v1, s1, k]
theorem y_mB {P x4 r ia c : Int} {na : Nat} {M M' : EM} (ks : E_C 177 [192] M = some (c, M)) (c1 : c ≠ 99) (c2 : c ≠ 114) (c3 : c ≠ 102) (v1 : e_w (28 * P) = ia) (s1 : ∀ v, e_st 100 [193, ia, v] M = some (e_up M 193 na v)) (k : E_C 187 [192, P, 1, 7] (e_up M 193 na 3) = some (r, M')) : E_V 188 19 [192, P, 28, 0, x4] M = E_V 188 159 [192, P, c, 3, r] M' := by
  rw [E_V_eq]
  show e_tv E_C (E_V 188) e_t188_19 [192, P, 28, 0, x4] M = _
  unfold e_t188_19
  simp [zq_a, zq_b, zq_c, zq_d, zq_e, zq_f, zq_g, zq_h, zq_i, zq_j, zq_k, zq_l, zq_m, zq_n, zq_o, zq_p, zq_q, zq_r, zq_s, zq_t, zq_u, zq_v, zq_w, zq_x, zq_y, zq_z, zq_A, zq_B, zq_C, zq_D, zq_E, zq_F, zq_G, zq_H, zq_I, zq_J, zq_K, zq_L, ↓zq_M, ↓zq_N, ↓zq_O, ↓zq_P, ↓zq_Q, ↓zq_R, zq_S, zq_T, zq_U, zq_V, zq_W, zq_X, zq_Y, zq_Z, zq_0, zq_1, zq_2, zq_3, zq_4, zq_5, ↓zq_6, ↓zq_7, ↓zq_8, ↓zq_9, ↓zq_aa, zq_ab, zq_ac, zq_ad, zq_ae, zq_af, zq_ag, ↓zq_ah, ↓zq_ai, ↓zq_aj, zq_ak, ↓zq_al, ↓zq_am, e_b1, e_b2, x_o1, x_o2, r_O0, ks, c1, c2, c3, v1, s1, k]
theorem y_m159n {P x2 x3 r : Int} {M : EM} (h : x3 ≠ 3) : E_V 188 159 [192, P, x2, x3, r] M = E_V 188 189 [192, P, x2, x3, r] M := by
  rw [E_V_eq]
  show e_tv E_C (E_V 188) e_t188_159 [192, P, x2, x3, r] M = _
  unfold e_t188_159
  simp [zq_a, zq_b, zq_c, zq_d, zq_e, zq_f, zq_g, zq_h, zq_i, zq_j, zq_k, zq_l, zq_m, zq_n, zq_o, zq_p, zq_q, zq_r, zq_s, zq_t, zq_u, zq_v, zq_w, zq_x, zq_y, zq_z, zq_A, zq_B, zq_C, zq_D, zq_E, zq_F, zq_G, zq_H, zq_I, zq_J, zq_K, zq_L, ↓zq_M, ↓zq_N, ↓zq_O, ↓zq_P, ↓zq_Q, ↓zq_R, zq_S, zq_T, zq_U, zq_V, zq_W, zq_X, zq_Y, zq_Z, zq_0, zq_1, zq_2, zq_3, zq_4, zq_5, ↓zq_6, ↓zq_7, ↓zq_8, ↓zq_9, ↓zq_aa, zq_ab, zq_ac, zq_ad, zq_ae, zq_af, zq_ag, ↓zq_ah, ↓zq_ai, ↓zq_aj, zq_ak, ↓zq_al, ↓zq_am, e_b1, e_b2, x_o1, x_o2, h]
theorem y_m159y {P x2 r ia ib : Int} {na nb : Nat} {M : EM} (v1 : e_w (28 * P) = 28 * P) (v2 : e_w (28 * P + 5) = ia) (v3 : e_w (28 * P + 6) = ib) (s1 : ∀ v, e_st 100 [193, ia, v] M = some (e_up M 193 na v)) (s2 : ∀ v M, e_st 100 [193, ib, v] M = some (e_up M 193 nb v)) : E_V 188 159 [192, P, x2, 3, r] M = E_V 188 189 [192, P, x2, 3, r] (e_up (e_up M 193 na 5) 193 nb 1) := by
  rw [E_V_eq]
  show e_tv E_C (E_V 188) e_t188_159 [192, P, x2, 3, r] M = _
  unfold e_t188_159
  simp [zq_a, zq_b, zq_c, zq_d, zq_e, zq_f, zq_g, zq_h, zq_i, zq_j, zq_k, zq_l, zq_m, zq_n, zq_o, zq_p, zq_q, zq_r, zq_s, zq_t, zq_u, zq_v, zq_w, zq_x, zq_y, zq_z, zq_A, zq_B, zq_C, zq_D, zq_E, zq_F, zq_G, zq_H, zq_I, zq_J, zq_K, zq_L, ↓zq_M, ↓zq_N, ↓zq_O, ↓zq_P, ↓zq_Q, ↓zq_R, zq_S, zq_T, zq_U, zq_V, zq_W, zq_X, zq_Y, zq_Z, zq_0, zq_1, zq_2, zq_3, zq_4, zq_5, ↓zq_6, ↓zq_7, ↓zq_8, ↓zq_9, ↓zq_aa, zq_ab, zq_ac, zq_ad, zq_ae, zq_af, zq_ag, ↓zq_ah, ↓zq_ai, ↓zq_aj, zq_ak, ↓zq_al, ↓zq_am, e_b1, e_b2, x_o1, x_o2, r_O0, v1, v2, v3, s1, s2]
theorem y_m189 {P x2 x3 r pos k1 q q1 : Int} {M M1 : EM} (h15 : M 192 15 = pos) (w1 : e_w (pos + 1) = k1) (hM1 : e_up M 192 15 k1 = M1) (l : e_op 60 [193, 1198] M1 = some q) (w2 : e_w (q + 1) = q1) (s1 : ∀ v, e_st 100 [193, 1198, v] M1 = some (e_up M1 193 1198 v)) : E_V 188 189 [192, P, x2, x3, r] M = some (r, e_up M1 193 1198 q1) := by
  rw [E_V_eq]
  show e_tv E_C (E_V 188) e_t188_189 [192, P, x2, x3, r] M = _
  unfold e_t188_189
  simp [zq_a, zq_b, zq_c, zq_d, zq_e, zq_f, zq_g, zq_h, zq_i, zq_j, zq_k, zq_l, zq_m, zq_n, zq_o, zq_p, zq_q, zq_r, zq_s, zq_t, zq_u, zq_v, zq_w, zq_x, zq_y, zq_z, zq_A, zq_B, zq_C, zq_D, zq_E, zq_F, zq_G, zq_H, zq_I, zq_J, zq_K, zq_L, ↓zq_M, ↓zq_N, ↓zq_O, ↓zq_P, ↓zq_Q, ↓zq_R, zq_S, zq_T, zq_U, zq_V, zq_W, zq_X, zq_Y, zq_Z, zq_0, zq_1, zq_2, zq_3, zq_4, zq_5, ↓zq_6, ↓zq_7, ↓zq_8, ↓zq_9, ↓zq_aa, zq_ab, zq_ac, zq_ad, zq_ae, zq_af, zq_ag, ↓zq_ah, ↓zq_ai, ↓zq_aj, zq_ak, ↓zq_al, ↓zq_am, e_b1, e_b2, x_o1, x_o2, r_O0, r_F15, r_P15, h15, w1, hM1, l, w2, s1]
/-- the new PART's row is empty but for its KIND -/
def y_zk (g g0 : Int → Int) (p : Nat) (kd : Int) : Prop := g0 (28 * (p : Int)) = kd ∧ (∀ d, 1 ≤ d → d < 28 → g0 (28 * (p : Int) + d) = 0) ∧ (∀ x, 0 ≤ x → (x < 28 * (p : Int) ∨ 28 * (p : Int) + 28 ≤ x) → g0 x = g x)
section YMK
variable {b : Nat → Int} {n k : Nat} {N M : EM} {p : Nat}
theorem y_zero (hp : p < 40) {g : Int → Int} {x4 : Int} : ∀ (m d : Nat) (M : EM), d + m = 28 → y_B b n k M → y_fr N M → (∀ e : Int, 0 ≤ e → e < d → r_G M (28 * (p : Int) + e) = 0) → (∀ x, 0 ≤ x → (x < 28 * (p : Int) ∨ 28 * (p : Int) + 28 ≤ x) → r_G M x = g x) → ∃ M', E_V 188 19 [192, (p : Int), (d : Int), 0, x4] M = E_V 188 19 [192, (p : Int), 28, 0, x4] M' ∧ y_B b n k M' ∧ y_fr N M' ∧ (∀ e : Int, 0 ≤ e → e < 28 → r_G M' (28 * (p : Int) + e) = 0) ∧ (∀ x, 0 ≤ x → (x < 28 * (p : Int) ∨ 28 * (p : Int) + 28 ≤ x) → r_G M' x = g x) := by
  intro m
  induction m with
  | zero =>
    intro d M hm hB hf h1 h2
    have e : d = 28 := by omega
    subst e
    exact ⟨M, rfl, hB, hf, fun e e0 e1 => h1 e e0 e1, h2⟩
  | succ m ih =>
    intro d M hm hB hf h1 h2
    have b1 : 0 ≤ 28 * (p : Int) + (d : Int) ∧ 28 * (p : Int) + (d : Int) < 1330 := by omega
    have s1 := fun v => r_stw (i := 28 * (p : Int) + (d : Int)) (v := v) (M := M) b1.1 b1.2
    have Gs : r_G (e_up M 193 (28 * (p : Int) + (d : Int)).toNat 0) (28 * (p : Int) + (d : Int)) = 0 := r_G_s
    have Gn : ∀ x, 0 ≤ x → x ≠ 28 * (p : Int) + (d : Int) → r_G (e_up M 193 (28 * (p : Int) + (d : Int)).toNat 0) x = r_G M x := fun x x0 hx => by
      unfold r_G
      rw [c_up_n (by omega)]
    obtain ⟨M', k1, c⟩ := ih (d + 1) (e_up M 193 (28 * (p : Int) + (d : Int)).toNat 0) (by omega) (y_Bw hB (by decide)) (y_frw hf) (fun e e0 e1 => by
      by_cases q : e = d
      · rw [q]; exact Gs
      · rw [Gn _ (by omega) (by omega)]
        exact h1 e e0 (by omega)) (fun x x0 hx => by
      rw [Gn _ x0 (by omega)]
      exact h2 x x0 hx)
    refine ⟨M', ?_, c⟩
    rw [← k1]
    have h28 : (d : Int) < 28 := by omega
    have w : e_w ((d : Int) + 1) = ((d + 1 : Nat) : Int) := by
      clear s1 Gs Gn k1 c
      exact (a_w_id (by omega) (by omega)).trans (by omega)
    have v : e_w (28 * (p : Int)) = 28 * (p : Int) ∧ e_w (28 * (p : Int) + (d : Int)) = 28 * (p : Int) + (d : Int) := by
      clear s1 Gs Gn k1 c w
      refine ⟨?_, ?_⟩ <;> exact a_w_id (by omega) (by omega)
    exact y_m19 h28 v.1 v.2 s1 w
end YMK
end
