section
theorem x_o1 {k : Nat} {a : Int} {M : EM} (h : k ≠ 63) : e_op k [a] M = e_b1 k a := if_neg h
theorem x_o2 {k : Nat} {a b : Int} {M : EM} (h : k ≠ 60) (h1 : k ≠ 61) (h2 : k ≠ 62) : e_op k [a, b] M = e_b2 k a b := by
  simp only [e_op, if_neg h, if_neg h1, if_neg h2]
def a_w143 : AW := a_SH.map (fun s => ((e_gr s.toNat 6).toNat, 0, 119))
theorem c_size {s : Int} {M : EM} (hs : s ∈ a_SH) (hM : a_M M) : 0 ≤ M s.toNat 5 ∧ M s.toNat 5 ≤ 120 := by
  have h1 : ∀ x ∈ a_SH, x.toNat ≠ 5 ∧ (5, 5, 0, 120) ∈ a_mi x.toNat := by decide +kernel
  obtain ⟨h2, h3⟩ := h1 s hs
  exact (hM s.toNat 5 h2).2.2 _ h3 (Nat.le_refl _) (Nat.le_refl _)
theorem c_rok8 {u : Nat} {s : Int} {t : List Int} (hs : s ∈ a_SH) (hu : q_rc (e_vm u) = some 8) : e_rok u (s :: t) = true := by
  unfold e_rok
  rw [hu]
  exact decide_eq_true (c_shelf hs).1
theorem c_nothing {s : Int} {M : EM} (hs : s ∈ a_SH) : E_C 84 [s] M = some (if M s.toNat 0 = 0 ∧ M s.toNat 1 = 0 then 1 else 0, M) := by
  have h1 : E_C 84 [s] M = e_tv E_C (E_V 84) e_t84_0 [s] M := by
    unfold E_C
    rw [if_pos (c_rok8 hs (by decide +kernel)), E_V_eq]
    rfl
  have k1 := (c_shelf hs).1
  have f0 : ∀ M, e_gf 512 [s] M = some (M s.toNat 0) := fun M => c_gf k1 (by decide +kernel)
  have f1 : ∀ M, e_gf 513 [s] M = some (M s.toNat 1) := fun M => c_gf k1 (by decide +kernel)
  rw [h1]
  unfold e_t84_0
  by_cases q0 : M s.toNat 0 = 0
  · by_cases q1 : M s.toNat 1 = 0
    · simp [zq_a, zq_b, zq_c, zq_d, zq_e, zq_f, zq_g, zq_h, zq_i, zq_j, zq_k, zq_l, zq_m, zq_n, zq_o, zq_p, zq_q, zq_r, zq_s, zq_t, zq_u, zq_v, zq_w, zq_x, zq_y, zq_z, zq_A, zq_B, zq_C, zq_D, zq_E, zq_F, zq_G, zq_H, zq_I, zq_J, zq_K, zq_L, ↓zq_M, ↓zq_N, ↓zq_O, ↓zq_P, ↓zq_Q, ↓zq_R, zq_S, zq_T, zq_U, zq_V, zq_W, zq_X, zq_Y, zq_Z, zq_0, zq_1, zq_2, zq_3, zq_4, zq_5, ↓zq_6, ↓zq_7, ↓zq_8, ↓zq_9, ↓zq_aa, zq_ab, zq_ac, zq_ad, zq_ae, zq_af, zq_ag, ↓zq_ah, ↓zq_ai, ↓zq_aj, zq_ak, ↓zq_al, ↓zq_am, e_op, e_b1, f0, f1, q0, q1]
    · simp [zq_a, zq_b, zq_c, zq_d, zq_e, zq_f, zq_g, zq_h, zq_i, zq_j, zq_k, zq_l, zq_m, zq_n, zq_o, zq_p, zq_q, zq_r, zq_s, zq_t, zq_u, zq_v, zq_w, zq_x, zq_y, zq_z, zq_A, zq_B, zq_C, zq_D, zq_E, zq_F, zq_G, zq_H, zq_I, zq_J, zq_K, zq_L, ↓zq_M, ↓zq_N, ↓zq_O, ↓zq_P, ↓zq_Q, ↓zq_R, zq_S, zq_T, zq_U, zq_V, zq_W, zq_X, zq_Y, zq_Z, zq_0, zq_1, zq_2, zq_3, zq_4, zq_5, ↓zq_6, ↓zq_7, ↓zq_8, ↓zq_9, ↓zq_aa, zq_ab, zq_ac, zq_ad, zq_ae, zq_af, zq_ag, ↓zq_ah, ↓zq_ai, ↓zq_aj, zq_ak, ↓zq_al, ↓zq_am, e_op, e_b1, f0, f1, q0, q1]
  · simp [zq_a, zq_b, zq_c, zq_d, zq_e, zq_f, zq_g, zq_h, zq_i, zq_j, zq_k, zq_l, zq_m, zq_n, zq_o, zq_p, zq_q, zq_r, zq_s, zq_t, zq_u, zq_v, zq_w, zq_x, zq_y, zq_z, zq_A, zq_B, zq_C, zq_D, zq_E, zq_F, zq_G, zq_H, zq_I, zq_J, zq_K, zq_L, ↓zq_M, ↓zq_N, ↓zq_O, ↓zq_P, ↓zq_Q, ↓zq_R, zq_S, zq_T, zq_U, zq_V, zq_W, zq_X, zq_Y, zq_Z, zq_0, zq_1, zq_2, zq_3, zq_4, zq_5, ↓zq_6, ↓zq_7, ↓zq_8, ↓zq_9, ↓zq_aa, zq_ab, zq_ac, zq_ad, zq_ae, zq_af, zq_ag, ↓zq_ah, ↓zq_ai, ↓zq_aj, zq_ak, ↓zq_al, ↓zq_am, e_op, e_b1, f0, f1, q0]
theorem c_hasRun {s i n : Int} {M : EM} (hs : s ∈ a_SH) (hM : a_M M) (hi : -2147483648 ≤ i ∧ i ≤ 2147483647) (hn : -2147483648 ≤ n ∧ n ≤ 2147483647) : E_C 90 [s, i, n] M = some (if 0 ≤ i ∧ 0 ≤ n ∧ i + n ≤ M s.toNat 5 then 1 else 0, M) := by
  have h1 : E_C 90 [s, i, n] M = e_tv E_C (E_V 90) e_t90_0 [s, i, n] M := by
    unfold E_C
    rw [if_pos (c_rok8 hs (by decide +kernel)), E_V_eq]
    rfl
  obtain ⟨k1, k2, k3, k4⟩ := c_shelf hs
  have hz := c_size hs hM
  have f5 : ∀ M, e_gf 517 [s] M = some (M s.toNat 5) := fun M => c_gf k1 (by decide +kernel)
  have f6 : ∀ M, e_gf 518 [s] M = some (e_gr s.toNat 6) := fun M => c_gr k1 (by decide +kernel)
  have hne : (e_gr s.toNat 6).toNat ≠ 0 := by omega
  have hlen : ∀ M, e_op 63 [e_gr s.toNat 6] M = some 120 := by
    intro M
    simp only [e_op, if_pos]
    have hsz : e_sz M (e_gr s.toNat 6).toNat = 120 := by unfold e_sz; rw [if_neg hne, k4]
    rw [if_pos ⟨by omega, k3, by rw [k4]; exact Nat.le_refl _⟩, hsz]
    rfl
  have hW : e_W (i + n) = i + n := by unfold e_W; omega
  have hmin : ¬ (120 < M s.toNat 5) := by omega
  rw [h1]
  unfold e_t90_0
  by_cases q0 : 0 ≤ i
  · by_cases q1 : 0 ≤ n
    · by_cases q2 : i + n ≤ M s.toNat 5
      · simp [zq_a, zq_b, zq_c, zq_d, zq_e, zq_f, zq_g, zq_h, zq_i, zq_j, zq_k, zq_l, zq_m, zq_n, zq_o, zq_p, zq_q, zq_r, zq_s, zq_t, zq_u, zq_v, zq_w, zq_x, zq_y, zq_z, zq_A, zq_B, zq_C, zq_D, zq_E, zq_F, zq_G, zq_H, zq_I, zq_J, zq_K, zq_L, ↓zq_M, ↓zq_N, ↓zq_O, ↓zq_P, ↓zq_Q, ↓zq_R, zq_S, zq_T, zq_U, zq_V, zq_W, zq_X, zq_Y, zq_Z, zq_0, zq_1, zq_2, zq_3, zq_4, zq_5, ↓zq_6, ↓zq_7, ↓zq_8, ↓zq_9, ↓zq_aa, zq_ab, zq_ac, zq_ad, zq_ae, zq_af, zq_ag, ↓zq_ah, ↓zq_ai, ↓zq_aj, zq_ak, ↓zq_al, ↓zq_am, e_b1, e_b2, f5, f6, hlen, hW, hmin, q0, q1, q2, x_o1, x_o2]
      · simp [zq_a, zq_b, zq_c, zq_d, zq_e, zq_f, zq_g, zq_h, zq_i, zq_j, zq_k, zq_l, zq_m, zq_n, zq_o, zq_p, zq_q, zq_r, zq_s, zq_t, zq_u, zq_v, zq_w, zq_x, zq_y, zq_z, zq_A, zq_B, zq_C, zq_D, zq_E, zq_F, zq_G, zq_H, zq_I, zq_J, zq_K, zq_L, ↓zq_M, ↓zq_N, ↓zq_O, ↓zq_P, ↓zq_Q, ↓zq_R, zq_S, zq_T, zq_U, zq_V, zq_W, zq_X, zq_Y, zq_Z, zq_0, zq_1, zq_2, zq_3, zq_4, zq_5, ↓zq_6, ↓zq_7, ↓zq_8, ↓zq_9, ↓zq_aa, zq_ab, zq_ac, zq_ad, zq_ae, zq_af, zq_ag, ↓zq_ah, ↓zq_ai, ↓zq_aj, zq_ak, ↓zq_al, ↓zq_am, e_b1, e_b2, f5, f6, hlen, hW, hmin, q0, q1, q2, x_o1, x_o2]
    · simp [zq_a, zq_b, zq_c, zq_d, zq_e, zq_f, zq_g, zq_h, zq_i, zq_j, zq_k, zq_l, zq_m, zq_n, zq_o, zq_p, zq_q, zq_r, zq_s, zq_t, zq_u, zq_v, zq_w, zq_x, zq_y, zq_z, zq_A, zq_B, zq_C, zq_D, zq_E, zq_F, zq_G, zq_H, zq_I, zq_J, zq_K, zq_L, ↓zq_M, ↓zq_N, ↓zq_O, ↓zq_P, ↓zq_Q, ↓zq_R, zq_S, zq_T, zq_U, zq_V, zq_W, zq_X, zq_Y, zq_Z, zq_0, zq_1, zq_2, zq_3, zq_4, zq_5, ↓zq_6, ↓zq_7, ↓zq_8, ↓zq_9, ↓zq_aa, zq_ab, zq_ac, zq_ad, zq_ae, zq_af, zq_ag, ↓zq_ah, ↓zq_ai, ↓zq_aj, zq_ak, ↓zq_al, ↓zq_am, e_b1, e_b2, q0, q1, e_op]
  · simp [zq_a, zq_b, zq_c, zq_d, zq_e, zq_f, zq_g, zq_h, zq_i, zq_j, zq_k, zq_l, zq_m, zq_n, zq_o, zq_p, zq_q, zq_r, zq_s, zq_t, zq_u, zq_v, zq_w, zq_x, zq_y, zq_z, zq_A, zq_B, zq_C, zq_D, zq_E, zq_F, zq_G, zq_H, zq_I, zq_J, zq_K, zq_L, ↓zq_M, ↓zq_N, ↓zq_O, ↓zq_P, ↓zq_Q, ↓zq_R, zq_S, zq_T, zq_U, zq_V, zq_W, zq_X, zq_Y, zq_Z, zq_0, zq_1, zq_2, zq_3, zq_4, zq_5, ↓zq_6, ↓zq_7, ↓zq_8, ↓zq_9, ↓zq_aa, zq_ab, zq_ac, zq_ad, zq_ae, zq_af, zq_ag, ↓zq_ah, ↓zq_ai, ↓zq_aj, zq_ak, ↓zq_al, ↓zq_am, e_b1, e_b2, q0, e_op]
theorem c_el {s : Int} (hs : s ∈ a_SH) : a_mi (e_gr s.toNat 6).toNat = [] ∧ (e_gr s.toNat 6).toNat ≠ e_OUT ∧ (e_gr s.toNat 6).toNat ≠ 5 ∧ e_isO 100 (e_gr s.toNat 6) ∧ ((e_gr s.toNat 6).toNat, 0, 119) ∈ a_w143 := by
  have h2 : ∀ x ∈ a_SH, a_mi (e_gr x.toNat 6).toNat = [] ∧ (e_gr x.toNat 6).toNat ≠ e_OUT ∧ (e_gr x.toNat 6).toNat ≠ 5 ∧ e_isO 100 (e_gr x.toNat 6) ∧ ((e_gr x.toNat 6).toNat, 0, 119) ∈ a_w143 := by decide +kernel
  exact h2 s hs
theorem c_run_copy {s t i j n : Int} {M : EM} (hs : s ∈ a_SH) (ht : t ∈ a_SH) (hM : a_M M) (h0 : 0 ≤ i ∧ 0 ≤ j ∧ 0 ≤ n) (h1 : i + n ≤ 120) (h2 : j + n ≤ 120) : ∃ M', e_cp [e_gr s.toNat 6, i, e_gr t.toNat 6, j, n] M = some M' ∧ a_M M' ∧ a_fr a_w143 M M' := by
  obtain ⟨a1, a2, a3, a4, a5⟩ := c_el hs
  obtain ⟨b1, b2, b3, b4, b5⟩ := c_el ht
  have hz1 := (c_shelf hs).2.2.2
  have hz2 := (c_shelf ht).2.2.2
  have hcp : e_cp [e_gr s.toNat 6, i, e_gr t.toNat 6, j, n] M = some (e_cpm M (e_gr s.toNat 6).toNat i.toNat (e_gr t.toNat 6).toNat j.toNat n.toNat) := if_pos ⟨b4, a4, h0.1, h0.2.1, h0.2.2, by rw [hz1]; exact h1, by rw [hz2]; exact h2⟩
  refine ⟨_, hcp, fun b k h5 => ?_, fun b k hw => ?_⟩
  · unfold e_cpm
    split
    · rename_i hc
      obtain ⟨rfl, -⟩ := hc
      have := c_M32 (k := i.toNat + (k - j.toNat)) hM a3 a2
      refine ⟨?_, ?_, fun s hs => ?_⟩
      · unfold a_lo; rw [if_neg b2]; exact this.1
      · unfold a_hi; rw [if_neg b2]; exact this.2
      · rw [b1] at hs; cases hs
    · exact hM b k h5
  · unfold e_cpm
    rw [if_neg]
    intro hc
    obtain ⟨rfl, hc1, hc2⟩ := hc
    exact hw _ b5 ⟨rfl, Nat.zero_le _, show k ≤ 119 by omega⟩
theorem c_copy {d i e j n : Int} {M : EM} (hM : a_M M) (hd : -2147483648 ≤ d ∧ d ≤ 2147483647) (hi : -2147483648 ≤ i ∧ i ≤ 2147483647) (he : -2147483648 ≤ e ∧ e ≤ 2147483647) (hj : -2147483648 ≤ j ∧ j ≤ 2147483647) (hn : -2147483648 ≤ n ∧ n ≤ 2147483647) : a_OUT a_w143 a_T32 M (E_C 143 [8, d, i, e, j, n] M) := by
  have h1 : E_C 143 [8, d, i, e, j, n] M = e_tv E_C (E_V 143) e_t143_0 [8, d, i, e, j, n, 0, 0] M := by
    unfold E_C
    rw [if_pos (show e_rok 143 [8, d, i, e, j, n] = true from decide_eq_true c_this), E_V_eq]
    rfl
  rw [h1]
  unfold e_t143_0
  obtain ⟨s, s1, s2⟩ := c_shelfAt hM hd
  obtain ⟨t, t1, t2⟩ := c_shelfAt hM he
  by_cases q0 : s = -1
  · subst q0
    exact ⟨-1, M, by simp [zq_a, zq_b, zq_c, zq_d, zq_e, zq_f, zq_g, zq_h, zq_i, zq_j, zq_k, zq_l, zq_m, zq_n, zq_o, zq_p, zq_q, zq_r, zq_s, zq_t, zq_u, zq_v, zq_w, zq_x, zq_y, zq_z, zq_A, zq_B, zq_C, zq_D, zq_E, zq_F, zq_G, zq_H, zq_I, zq_J, zq_K, zq_L, ↓zq_M, ↓zq_N, ↓zq_O, ↓zq_P, ↓zq_Q, ↓zq_R, zq_S, zq_T, zq_U, zq_V, zq_W, zq_X, zq_Y, zq_Z, zq_0, zq_1, zq_2, zq_3, zq_4, zq_5, ↓zq_6, ↓zq_7, ↓zq_8, ↓zq_9, ↓zq_aa, zq_ab, zq_ac, zq_ad, zq_ae, zq_af, zq_ag, ↓zq_ah, ↓zq_ai, ↓zq_aj, zq_ak, ↓zq_al, ↓zq_am, e_op, e_b1, s1, t1], a_T32_ok (by decide), hM, a_fr_rf⟩
  have hs := s2.resolve_left q0
  by_cases q1 : t = -1
  · subst q1
    exact ⟨-1, M, by simp [zq_a, zq_b, zq_c, zq_d, zq_e, zq_f, zq_g, zq_h, zq_i, zq_j, zq_k, zq_l, zq_m, zq_n, zq_o, zq_p, zq_q, zq_r, zq_s, zq_t, zq_u, zq_v, zq_w, zq_x, zq_y, zq_z, zq_A, zq_B, zq_C, zq_D, zq_E, zq_F, zq_G, zq_H, zq_I, zq_J, zq_K, zq_L, ↓zq_M, ↓zq_N, ↓zq_O, ↓zq_P, ↓zq_Q, ↓zq_R, zq_S, zq_T, zq_U, zq_V, zq_W, zq_X, zq_Y, zq_Z, zq_0, zq_1, zq_2, zq_3, zq_4, zq_5, ↓zq_6, ↓zq_7, ↓zq_8, ↓zq_9, ↓zq_aa, zq_ab, zq_ac, zq_ad, zq_ae, zq_af, zq_ag, ↓zq_ah, ↓zq_ai, ↓zq_aj, zq_ak, ↓zq_al, ↓zq_am, e_op, e_b1, s1, t1, q0], a_T32_ok (by decide), hM, a_fr_rf⟩
  have ht := t2.resolve_left q1
  have k1 := (c_shelf hs).1
  have l1 := (c_shelf ht).1
  have f1 : ∀ M, e_gf 513 [s] M = some (M s.toNat 1) := fun M => c_gf k1 (by decide +kernel)
  have f4 : ∀ M, e_gf 516 [s] M = some (M s.toNat 4) := fun M => c_gf k1 (by decide +kernel)
  have f6 : ∀ M, e_gf 518 [s] M = some (e_gr s.toNat 6) := fun M => c_gr k1 (by decide +kernel)
  have g1 : ∀ M, e_gf 513 [t] M = some (M t.toNat 1) := fun M => c_gf l1 (by decide +kernel)
  have g4 : ∀ M, e_gf 516 [t] M = some (M t.toNat 4) := fun M => c_gf l1 (by decide +kernel)
  have g6 : ∀ M, e_gf 518 [t] M = some (e_gr t.toNat 6) := fun M => c_gr l1 (by decide +kernel)
  by_cases q2 : M s.toNat 0 = 0 ∧ M s.toNat 1 = 0
  · exact ⟨-11, M, by simp [zq_a, zq_b, zq_c, zq_d, zq_e, zq_f, zq_g, zq_h, zq_i, zq_j, zq_k, zq_l, zq_m, zq_n, zq_o, zq_p, zq_q, zq_r, zq_s, zq_t, zq_u, zq_v, zq_w, zq_x, zq_y, zq_z, zq_A, zq_B, zq_C, zq_D, zq_E, zq_F, zq_G, zq_H, zq_I, zq_J, zq_K, zq_L, ↓zq_M, ↓zq_N, ↓zq_O, ↓zq_P, ↓zq_Q, ↓zq_R, zq_S, zq_T, zq_U, zq_V, zq_W, zq_X, zq_Y, zq_Z, zq_0, zq_1, zq_2, zq_3, zq_4, zq_5, ↓zq_6, ↓zq_7, ↓zq_8, ↓zq_9, ↓zq_aa, zq_ab, zq_ac, zq_ad, zq_ae, zq_af, zq_ag, ↓zq_ah, ↓zq_ai, ↓zq_aj, zq_ak, ↓zq_al, ↓zq_am, e_op, e_b1, s1, t1, q0, q1, c_nothing hs, c_nothing ht, q2], a_T32_ok (by decide), hM, a_fr_rf⟩
  by_cases q3 : M t.toNat 0 = 0 ∧ M t.toNat 1 = 0
  · exact ⟨-11, M, by simp [zq_a, zq_b, zq_c, zq_d, zq_e, zq_f, zq_g, zq_h, zq_i, zq_j, zq_k, zq_l, zq_m, zq_n, zq_o, zq_p, zq_q, zq_r, zq_s, zq_t, zq_u, zq_v, zq_w, zq_x, zq_y, zq_z, zq_A, zq_B, zq_C, zq_D, zq_E, zq_F, zq_G, zq_H, zq_I, zq_J, zq_K, zq_L, ↓zq_M, ↓zq_N, ↓zq_O, ↓zq_P, ↓zq_Q, ↓zq_R, zq_S, zq_T, zq_U, zq_V, zq_W, zq_X, zq_Y, zq_Z, zq_0, zq_1, zq_2, zq_3, zq_4, zq_5, ↓zq_6, ↓zq_7, ↓zq_8, ↓zq_9, ↓zq_aa, zq_ab, zq_ac, zq_ad, zq_ae, zq_af, zq_ag, ↓zq_ah, ↓zq_ai, ↓zq_aj, zq_ak, ↓zq_al, ↓zq_am, e_op, e_b1, s1, t1, q0, q1, c_nothing hs, c_nothing ht, q2, q3], a_T32_ok (by decide), hM, a_fr_rf⟩
  have n1 : E_C 84 [s] M = some (0, M) := by rw [c_nothing hs, if_neg q2]
  have n2 : E_C 84 [t] M = some (0, M) := by rw [c_nothing ht, if_neg q3]
  by_cases q4 : M s.toNat 1 = 0
  · exact ⟨-12, M, by simp [zq_a, zq_b, zq_c, zq_d, zq_e, zq_f, zq_g, zq_h, zq_i, zq_j, zq_k, zq_l, zq_m, zq_n, zq_o, zq_p, zq_q, zq_r, zq_s, zq_t, zq_u, zq_v, zq_w, zq_x, zq_y, zq_z, zq_A, zq_B, zq_C, zq_D, zq_E, zq_F, zq_G, zq_H, zq_I, zq_J, zq_K, zq_L, ↓zq_M, ↓zq_N, ↓zq_O, ↓zq_P, ↓zq_Q, ↓zq_R, zq_S, zq_T, zq_U, zq_V, zq_W, zq_X, zq_Y, zq_Z, zq_0, zq_1, zq_2, zq_3, zq_4, zq_5, ↓zq_6, ↓zq_7, ↓zq_8, ↓zq_9, ↓zq_aa, zq_ab, zq_ac, zq_ad, zq_ae, zq_af, zq_ag, ↓zq_ah, ↓zq_ai, ↓zq_aj, zq_ak, ↓zq_al, ↓zq_am, e_op, e_b1, e_b2, s1, t1, q0, q1, n1, n2, f1, g1, f4, g4, q4], a_T32_ok (by decide), hM, a_fr_rf⟩
  by_cases q5 : M t.toNat 1 = 0
  · exact ⟨-12, M, by simp [zq_a, zq_b, zq_c, zq_d, zq_e, zq_f, zq_g, zq_h, zq_i, zq_j, zq_k, zq_l, zq_m, zq_n, zq_o, zq_p, zq_q, zq_r, zq_s, zq_t, zq_u, zq_v, zq_w, zq_x, zq_y, zq_z, zq_A, zq_B, zq_C, zq_D, zq_E, zq_F, zq_G, zq_H, zq_I, zq_J, zq_K, zq_L, ↓zq_M, ↓zq_N, ↓zq_O, ↓zq_P, ↓zq_Q, ↓zq_R, zq_S, zq_T, zq_U, zq_V, zq_W, zq_X, zq_Y, zq_Z, zq_0, zq_1, zq_2, zq_3, zq_4, zq_5, ↓zq_6, ↓zq_7, ↓zq_8, ↓zq_9, ↓zq_aa, zq_ab, zq_ac, zq_ad, zq_ae, zq_af, zq_ag, ↓zq_ah, ↓zq_ai, ↓zq_aj, zq_ak, ↓zq_al, ↓zq_am, e_op, e_b1, e_b2, s1, t1, q0, q1, n1, n2, f1, g1, f4, g4, q4, q5], a_T32_ok (by decide), hM, a_fr_rf⟩
  by_cases q6 : M s.toNat 4 = M t.toNat 4
  · by_cases q7 : 0 ≤ i ∧ 0 ≤ n ∧ i + n ≤ M s.toNat 5
    · have u1 : E_C 90 [s, i, n] M = some (1, M) := by rw [c_hasRun hs hM hi hn, if_pos q7]
      by_cases q8 : 0 ≤ j ∧ 0 ≤ n ∧ j + n ≤ M t.toNat 5
      · have u2 : E_C 90 [t, j, n] M = some (1, M) := by rw [c_hasRun ht hM hj hn, if_pos q8]
        have z1 := c_size hs hM
        have z2 := c_size ht hM
        obtain ⟨M', m1, m2, m3⟩ := c_run_copy hs ht hM (i := i) (j := j) (n := n) ⟨q7.1, q8.1, q7.2.1⟩ (by omega) (by omega)
        exact ⟨n, M', by simp [zq_a, zq_b, zq_c, zq_d, zq_e, zq_f, zq_g, zq_h, zq_i, zq_j, zq_k, zq_l, zq_m, zq_n, zq_o, zq_p, zq_q, zq_r, zq_s, zq_t, zq_u, zq_v, zq_w, zq_x, zq_y, zq_z, zq_A, zq_B, zq_C, zq_D, zq_E, zq_F, zq_G, zq_H, zq_I, zq_J, zq_K, zq_L, ↓zq_M, ↓zq_N, ↓zq_O, ↓zq_P, ↓zq_Q, ↓zq_R, zq_S, zq_T, zq_U, zq_V, zq_W, zq_X, zq_Y, zq_Z, zq_0, zq_1, zq_2, zq_3, zq_4, zq_5, ↓zq_6, ↓zq_7, ↓zq_8, ↓zq_9, ↓zq_aa, zq_ab, zq_ac, zq_ad, zq_ae, zq_af, zq_ag, ↓zq_ah, ↓zq_ai, ↓zq_aj, zq_ak, ↓zq_al, ↓zq_am, e_op, e_b1, e_b2, s1, t1, q0, q1, n1, n2, f1, g1, f4, g4, f6, g6, q4, q5, q6, u1, u2, m1], a_T32_ok hn, m2, m3⟩
      · have u2 : E_C 90 [t, j, n] M = some (0, M) := by rw [c_hasRun ht hM hj hn, if_neg q8]
        exact ⟨-13, M, by simp [zq_a, zq_b, zq_c, zq_d, zq_e, zq_f, zq_g, zq_h, zq_i, zq_j, zq_k, zq_l, zq_m, zq_n, zq_o, zq_p, zq_q, zq_r, zq_s, zq_t, zq_u, zq_v, zq_w, zq_x, zq_y, zq_z, zq_A, zq_B, zq_C, zq_D, zq_E, zq_F, zq_G, zq_H, zq_I, zq_J, zq_K, zq_L, ↓zq_M, ↓zq_N, ↓zq_O, ↓zq_P, ↓zq_Q, ↓zq_R, zq_S, zq_T, zq_U, zq_V, zq_W, zq_X, zq_Y, zq_Z, zq_0, zq_1, zq_2, zq_3, zq_4, zq_5, ↓zq_6, ↓zq_7, ↓zq_8, ↓zq_9, ↓zq_aa, zq_ab, zq_ac, zq_ad, zq_ae, zq_af, zq_ag, ↓zq_ah, ↓zq_ai, ↓zq_aj, zq_ak, ↓zq_al, ↓zq_am, e_op, e_b1, e_b2, s1, t1, q0, q1, n1, n2, f1, g1, f4, g4, q4, q5, q6, u1, u2], a_T32_ok (by decide), hM, a_fr_rf⟩
    · have u1 : E_C 90 [s, i, n] M = some (0, M) := by rw [c_hasRun hs hM hi hn, if_neg q7]
      exact ⟨-13, M, by simp [zq_a, zq_b, zq_c, zq_d, zq_e, zq_f, zq_g, zq_h, zq_i, zq_j, zq_k, zq_l, zq_m, zq_n, zq_o, zq_p, zq_q, zq_r, zq_s, zq_t, zq_u, zq_v, zq_w, zq_x, zq_y, zq_z, zq_A, zq_B, zq_C, zq_D, zq_E, zq_F, zq_G, zq_H, zq_I, zq_J, zq_K, zq_L, ↓zq_M, ↓zq_N, ↓zq_O, ↓zq_P, ↓zq_Q, ↓zq_R, zq_S, zq_T, zq_U, zq_V, zq_W, zq_X, zq_Y, zq_Z, zq_0, zq_1, zq_2, zq_3, zq_4, zq_5, ↓zq_6, ↓zq_7, ↓zq_8, ↓zq_9, ↓zq_aa, zq_ab, zq_ac, zq_ad, zq_ae, zq_af, zq_ag, ↓zq_ah, ↓zq_ai, ↓zq_aj, zq_ak, ↓zq_al, ↓zq_am, e_op, e_b1, e_b2, s1, t1, q0, q1, n1, n2, f1, g1, f4, g4, q4, q5, q6, u1], a_T32_ok (by decide), hM, a_fr_rf⟩
  · exact ⟨-12, M, by simp [zq_a, zq_b, zq_c, zq_d, zq_e, zq_f, zq_g, zq_h, zq_i, zq_j, zq_k, zq_l, zq_m, zq_n, zq_o, zq_p, zq_q, zq_r, zq_s, zq_t, zq_u, zq_v, zq_w, zq_x, zq_y, zq_z, zq_A, zq_B, zq_C, zq_D, zq_E, zq_F, zq_G, zq_H, zq_I, zq_J, zq_K, zq_L, ↓zq_M, ↓zq_N, ↓zq_O, ↓zq_P, ↓zq_Q, ↓zq_R, zq_S, zq_T, zq_U, zq_V, zq_W, zq_X, zq_Y, zq_Z, zq_0, zq_1, zq_2, zq_3, zq_4, zq_5, ↓zq_6, ↓zq_7, ↓zq_8, ↓zq_9, ↓zq_aa, zq_ab, zq_ac, zq_ad, zq_ae, zq_af, zq_ag, ↓zq_ah, ↓zq_ai, ↓zq_aj, zq_ak, ↓zq_al, ↓zq_am, e_op, e_b1, e_b2, s1, t1, q0, q1, n1, n2, f1, g1, f4, g4, q4, q5, q6], a_T32_ok (by decide), hM, a_fr_rf⟩
end
section
def a_w147x173 : AW := [(173, 0, 39)]
def a_x147x173 : List AV := [a_r [173], a_T32, a_T32]
set_option maxRecDepth 100000 in
theorem a_c147x173 : (a_rok 147 a_x147x173 && a_an a_w147x173 (a_orc a_w147x173) 60 147 [] (a_ent 147 a_x147x173) (.mulL 4 (.num 0))) = true := by decide +kernel
def a_w147x174 : AW := [(174, 0, 39)]
def a_x147x174 : List AV := [a_r [174], a_T32, a_T32]
set_option maxRecDepth 100000 in
theorem a_c147x174 : (a_rok 147 a_x147x174 && a_an a_w147x174 (a_orc a_w147x174) 60 147 [] (a_ent 147 a_x147x174) (.mulL 4 (.num 0))) = true := by decide +kernel
def a_w147x175 : AW := [(175, 0, 159)]
def a_x147x175 : List AV := [a_r [175], a_T32, a_T32]
set_option maxRecDepth 100000 in
theorem a_c147x175 : (a_rok 147 a_x147x175 && a_an a_w147x175 (a_orc a_w147x175) 60 147 [] (a_ent 147 a_x147x175) (.mulL 4 (.num 0))) = true := by decide +kernel
def a_w147x176 : AW := [(176, 0, 39)]
def a_x147x176 : List AV := [a_r [176], a_T32, a_T32]
set_option maxRecDepth 100000 in
theorem a_c147x176 : (a_rok 147 a_x147x176 && a_an a_w147x176 (a_orc a_w147x176) 60 147 [] (a_ent 147 a_x147x176) (.mulL 4 (.num 0))) = true := by decide +kernel
def a_w270 : AW := [(172, 0, 39)]
def a_x270 : List AV := [a_r [172], a_i 0 0]
set_option maxRecDepth 100000 in
theorem a_c270 : (a_rok 270 a_x270 && a_an a_w270 (a_orc a_w270) 60 270 [] (a_ent 270 a_x270) (.mulL 4 (.num 0))) = true := by decide +kernel
def a_w270b : AW := [(181, 0, 999)]
def a_x270b : List AV := [a_r [181], a_i 0 0]
set_option maxRecDepth 100000 in
theorem a_c270b : (a_rok 270 a_x270b && a_an a_w270b (a_orc a_w270b) 60 270 [] (a_ent 270 a_x270b) (.mulL 4 (.num 0))) = true := by decide +kernel
theorem c_isB : e_isO 0 170 := by decide +kernel
theorem c_lay {a i v : Int} {M : EM} (ha : a ∈ [(173 : Int), 174, 175, 176]) (hM : a_M M) (hi : -2147483648 ≤ i ∧ i ≤ 2147483647) (hv : -2147483648 ≤ v ∧ v ≤ 2147483647) : ∃ r M', E_C 147 [a, i, v] M = some (r, M') ∧ a_M M' ∧ a_fr a_w5 M M' ∧ M' 170 0 = M 170 0 := by
  simp only [List.mem_cons, List.not_mem_nil, or_false] at ha
  rcases ha with rfl | rfl | rfl | rfl
  · obtain ⟨r, M', h1, -, h3, h4⟩ := a_entry a_c147x173 (as := [173, i, v]) ⟨List.mem_cons_self, a_gi hi.1 hi.2, a_gi hv.1 hv.2, trivial⟩ hM
    exact ⟨r, M', h1, h3, a_sub_fr (by decide +kernel) h4, h4 170 0 (by decide +kernel)⟩
  · obtain ⟨r, M', h1, -, h3, h4⟩ := a_entry a_c147x174 (as := [174, i, v]) ⟨List.mem_cons_self, a_gi hi.1 hi.2, a_gi hv.1 hv.2, trivial⟩ hM
    exact ⟨r, M', h1, h3, a_sub_fr (by decide +kernel) h4, h4 170 0 (by decide +kernel)⟩
  · obtain ⟨r, M', h1, -, h3, h4⟩ := a_entry a_c147x175 (as := [175, i, v]) ⟨List.mem_cons_self, a_gi hi.1 hi.2, a_gi hv.1 hv.2, trivial⟩ hM
    exact ⟨r, M', h1, h3, a_sub_fr (by decide +kernel) h4, h4 170 0 (by decide +kernel)⟩
  · obtain ⟨r, M', h1, -, h3, h4⟩ := a_entry a_c147x176 (as := [176, i, v]) ⟨List.mem_cons_self, a_gi hi.1 hi.2, a_gi hv.1 hv.2, trivial⟩ hM
    exact ⟨r, M', h1, h3, a_sub_fr (by decide +kernel) h4, h4 170 0 (by decide +kernel)⟩
theorem c_bup {W : AW} {M : EM} {k : Nat} {v : Int} (hk : (a_ok W 170 (k : Nat) (k : Nat) (-2147483648, 2147483647, false)) = true) (hv : -2147483648 ≤ v ∧ v ≤ 2147483647) (hM : a_M M) : a_M (e_up M 170 k v) ∧ a_fr W M (e_up M 170 k v) :=
  a_up_ok (k := k) hk (Int.le_refl _) (Int.le_refl _) ⟨hv.1, hv.2, fun h => by cases h⟩ hM
theorem c_clear {M : EM} (hM : a_M M) : ∃ r M', E_C 3 [170] M = some (r, M') ∧ a_M M' ∧ a_fr a_w3 M M' ∧ M' 170 0 = 0 := by
  have h1 : E_C 3 [170] M = e_tv E_C (E_V 3) e_t3_0 [170] M := by
    unfold E_C
    rw [if_pos (show e_rok 3 [170] = true from decide_eq_true c_isB), E_V_eq]
    rfl
  rw [h1]
  have p0 : ∀ M, e_pf 0 [170, 0] M = some (e_up M 170 0 0) := fun M => c_pf c_isB (by decide +kernel)
  have p4 : ∀ M, e_pf 4 [170, 0] M = some (e_up M 170 4 0) := fun M => c_pf c_isB (by decide +kernel)
  have p5 : ∀ M, e_pf 5 [170, 0] M = some (e_up M 170 5 0) := fun M => c_pf c_isB (by decide +kernel)
  have g9 : ∀ M, e_gf 9 [170] M = some 172 := fun M => (c_gr c_isB (by decide +kernel)).trans (congrArg some (by decide +kernel))
  obtain ⟨a1, b1⟩ := c_bup (W := a_w3) (M := M) (k := 0) (v := 0) (by decide +kernel) (by decide) hM
  obtain ⟨a2, b2⟩ := c_bup (W := a_w3) (k := 4) (v := 0) (by decide +kernel) (by decide) a1
  obtain ⟨a3, b3⟩ := c_bup (W := a_w3) (k := 5) (v := 0) (by decide +kernel) (by decide) a2
  obtain ⟨r, M', f1, -, f2, f3⟩ := a_entry a_c270 (as := [172, 0]) ⟨List.mem_cons_self, a_gi (by decide) (by decide), trivial⟩ a3
  refine ⟨0, M', ?_, f2, a_fr_tr b1 (a_fr_tr b2 (a_fr_tr b3 (a_sub_fr (by decide +kernel) f3))), ?_⟩
  · unfold e_t3_0
    simp [zq_a, zq_b, zq_c, zq_d, zq_e, zq_f, zq_g, zq_h, zq_i, zq_j, zq_k, zq_l, zq_m, zq_n, zq_o, zq_p, zq_q, zq_r, zq_s, zq_t, zq_u, zq_v, zq_w, zq_x, zq_y, zq_z, zq_A, zq_B, zq_C, zq_D, zq_E, zq_F, zq_G, zq_H, zq_I, zq_J, zq_K, zq_L, ↓zq_M, ↓zq_N, ↓zq_O, ↓zq_P, ↓zq_Q, ↓zq_R, zq_S, zq_T, zq_U, zq_V, zq_W, zq_X, zq_Y, zq_Z, zq_0, zq_1, zq_2, zq_3, zq_4, zq_5, ↓zq_6, ↓zq_7, ↓zq_8, ↓zq_9, ↓zq_aa, zq_ab, zq_ac, zq_ad, zq_ae, zq_af, zq_ag, ↓zq_ah, ↓zq_ai, ↓zq_aj, zq_ak, ↓zq_al, ↓zq_am, p0, p4, p5, g9, f1]
  · rw [f3 170 0 (by decide +kernel), c_up_n (by decide), c_up_n (by decide), c_up_s]
end
section
theorem c_at32 {a i : Int} {M : EM} (hM : a_M M) (ha : 0 < a ∧ a.toNat < e_N ∧ (e_sh a.toNat).1 = 100) (h5 : a.toNat ≠ 5) (ho : a.toNat ≠ e_OUT) : ∃ v, E_C 146 [a, i] M = some (v, M) ∧ -2147483648 ≤ v ∧ v ≤ 2147483647 := by
  refine ⟨_, c_at a i M (Or.inr ha), ?_⟩
  split
  · exact c_M32 hM h5 ho
  · exact ⟨by decide, by decide⟩
theorem c_b3 : e_isO 3 9 := by decide +kernel
theorem c_b1 : e_isO 1 18 := by decide +kernel
theorem c_g (k : Nat) (v : Int) (M : EM) (h : e_fty k = 2 ∧ k / 64 = 0 ∧ e_gr 170 k = v) : e_gf k [170] M = some v := by
  obtain ⟨h1, h2, h3⟩ := h
  have h4 : k % 64 = k := by omega
  rw [c_gr (by rw [h2]; exact c_isB) h1, h4]
  exact congrArg some h3
theorem c_add_loop {x y : Int} : ∀ (m : Nat) (i : Int) (M : EM), a_M M → (4 - i).toNat ≤ m → 0 ≤ i → i ≤ 4 → ∃ M', E_V 5 51 [170, x, y, i] M = some (0, M') ∧ a_M M' ∧ a_fr a_w5 M M' ∧ M' 170 0 = e_w (M 170 0 + 1) := by
  have g12 : ∀ M, e_gf 12 [170] M = some 175 := fun M => c_g 12 175 M (by decide +kernel)
  have g3 : ∀ M, e_gf 3 [170] M = some 9 := fun M => c_g 3 9 M (by decide +kernel)
  have g0 : ∀ M, e_gf 0 [170] M = some (M 170 0) := fun M => c_gf c_isB (by decide +kernel)
  have p0 : ∀ v M, e_pf 0 [170, v] M = some (e_up M 170 0 v) := fun v M => c_pf c_isB (by decide +kernel)
  have g193 : ∀ M, e_gf 193 [9] M = some 18 := fun M => (c_gr c_b3 (by decide +kernel)).trans (congrArg some (by decide +kernel))
  have g66 : ∀ M, e_gf 66 [18] M = some 21 := fun M => (c_gr c_b1 (by decide +kernel)).trans (congrArg some (by decide +kernel))
  have hend : ∀ (i : Int) (M : EM), a_M M → ¬ (i < 4) → ∃ M', E_V 5 51 [170, x, y, i] M = some (0, M') ∧ a_M M' ∧ a_fr a_w5 M M' ∧ M' 170 0 = e_w (M 170 0 + 1) := by
    intro i M hM hlt
    obtain ⟨a1, b1⟩ := c_bup (W := a_w5) (M := M) (k := 0) (v := e_w (M 170 0 + 1)) (by decide +kernel) (a_w _) hM
    refine ⟨_, ?_, a1, b1, c_up_s⟩
    rw [E_V_eq]
    show e_tv E_C (E_V 5) e_t5_51 [170, x, y, i] M = _
    unfold e_t5_51
    simp [zq_a, zq_b, zq_c, zq_d, zq_e, zq_f, zq_g, zq_h, zq_i, zq_j, zq_k, zq_l, zq_m, zq_n, zq_o, zq_p, zq_q, zq_r, zq_s, zq_t, zq_u, zq_v, zq_w, zq_x, zq_y, zq_z, zq_A, zq_B, zq_C, zq_D, zq_E, zq_F, zq_G, zq_H, zq_I, zq_J, zq_K, zq_L, ↓zq_M, ↓zq_N, ↓zq_O, ↓zq_P, ↓zq_Q, ↓zq_R, zq_S, zq_T, zq_U, zq_V, zq_W, zq_X, zq_Y, zq_Z, zq_0, zq_1, zq_2, zq_3, zq_4, zq_5, ↓zq_6, ↓zq_7, ↓zq_8, ↓zq_9, ↓zq_aa, zq_ab, zq_ac, zq_ad, zq_ae, zq_af, zq_ag, ↓zq_ah, ↓zq_ai, ↓zq_aj, zq_ak, ↓zq_al, ↓zq_am, e_op, e_b2, g0, p0, hlt]
  intro m
  induction m with
  | zero => intro i M hM hm h0 h4; exact hend i M hM (by omega)
  | succ m ih =>
    intro i M hM hm h0 h4
    by_cases hlt : i < 4
    · obtain ⟨v, v1, v2⟩ := c_at32 (i := e_w (e_w (x * 4) + i)) hM (a := 21) (by decide +kernel) (by decide) (by decide +kernel)
      obtain ⟨r, M1, l1, l2, l3, l4⟩ := c_lay (a := 175) (i := e_w (e_w (M 170 0 * 4) + i)) (by decide) hM (a_w _) v2
      obtain ⟨M2, k1, k2, k3, k4⟩ := ih (i + 1) M1 l2 (by omega) (by omega) (by omega)
      refine ⟨M2, ?_, k2, a_fr_tr l3 k3, by rw [k4, l4]⟩
      have hw : e_w (i + 1) = i + 1 := a_w_id (by omega) (by omega)
      rw [E_V_eq]
      show e_tv E_C (E_V 5) e_t5_51 [170, x, y, i] M = _
      unfold e_t5_51
      simp [zq_a, zq_b, zq_c, zq_d, zq_e, zq_f, zq_g, zq_h, zq_i, zq_j, zq_k, zq_l, zq_m, zq_n, zq_o, zq_p, zq_q, zq_r, zq_s, zq_t, zq_u, zq_v, zq_w, zq_x, zq_y, zq_z, zq_A, zq_B, zq_C, zq_D, zq_E, zq_F, zq_G, zq_H, zq_I, zq_J, zq_K, zq_L, ↓zq_M, ↓zq_N, ↓zq_O, ↓zq_P, ↓zq_Q, ↓zq_R, zq_S, zq_T, zq_U, zq_V, zq_W, zq_X, zq_Y, zq_Z, zq_0, zq_1, zq_2, zq_3, zq_4, zq_5, ↓zq_6, ↓zq_7, ↓zq_8, ↓zq_9, ↓zq_aa, zq_ab, zq_ac, zq_ad, zq_ae, zq_af, zq_ag, ↓zq_ah, ↓zq_ai, ↓zq_aj, zq_ak, ↓zq_al, ↓zq_am, e_op, e_b2, g0, g3, g12, g193, g66, v1, l1, hlt, hw, k1]
    · exact hend i M hM hlt
theorem c_addCell {x y : Int} {M : EM} (hM : a_M M) (hx : -2147483648 ≤ x ∧ x ≤ 2147483647) (hy : -2147483648 ≤ y ∧ y ≤ 2147483647) : ∃ M', E_C 5 [170, x, y] M = some (0, M') ∧ a_M M' ∧ a_fr a_w5 M M' ∧ M' 170 0 = e_w (M 170 0 + 1) := by
  have h1 : E_C 5 [170, x, y] M = e_tv E_C (E_V 5) e_t5_0 [170, x, y, 0] M := by
    unfold E_C
    rw [if_pos (show e_rok 5 [170, x, y] = true from decide_eq_true c_isB), E_V_eq]
    rfl
  have g0 : ∀ M, e_gf 0 [170] M = some (M 170 0) := fun M => c_gf c_isB (by decide +kernel)
  have g3 : ∀ M, e_gf 3 [170] M = some 9 := fun M => c_g 3 9 M (by decide +kernel)
  have g10 : ∀ M, e_gf 10 [170] M = some 173 := fun M => c_g 10 173 M (by decide +kernel)
  have g11 : ∀ M, e_gf 11 [170] M = some 174 := fun M => c_g 11 174 M (by decide +kernel)
  have g13 : ∀ M, e_gf 13 [170] M = some 176 := fun M => c_g 13 176 M (by decide +kernel)
  have g193 : ∀ M, e_gf 193 [9] M = some 18 := fun M => (c_gr c_b3 (by decide +kernel)).trans (congrArg some (by decide +kernel))
  have g67 : ∀ M, e_gf 67 [18] M = some 22 := fun M => (c_gr c_b1 (by decide +kernel)).trans (congrArg some (by decide +kernel))
  have hb : ∀ {M}, a_M M → -2147483648 ≤ M 170 0 ∧ M 170 0 ≤ 2147483647 := fun h => c_M32 h (by decide) (by decide +kernel)
  obtain ⟨r1, M1, l1, l2, l3, l4⟩ := c_lay (a := 174) (i := M 170 0) (v := x) (by decide) hM (hb hM) hx
  obtain ⟨r2, M2, m1, m2, m3, m4⟩ := c_lay (a := 173) (i := M1 170 0) (v := y) (by decide) l2 (hb l2) hy
  obtain ⟨v, v1, v2⟩ := c_at32 (i := x) m2 (a := 22) (by decide +kernel) (by decide) (by decide +kernel)
  obtain ⟨r3, M3, n1, n2, n3, n4⟩ := c_lay (a := 176) (i := M2 170 0) (v := v) (by decide) m2 (hb m2) v2
  obtain ⟨M4, k1, k2, k3, k4⟩ := c_add_loop (x := x) (y := y) 4 0 M3 n2 (by decide) (by decide) (by decide)
  refine ⟨M4, ?_, k2, a_fr_tr l3 (a_fr_tr m3 (a_fr_tr n3 k3)), by rw [k4, n4, m4, l4]⟩
  rw [h1]
  unfold e_t5_0
  simp [zq_a, zq_b, zq_c, zq_d, zq_e, zq_f, zq_g, zq_h, zq_i, zq_j, zq_k, zq_l, zq_m, zq_n, zq_o, zq_p, zq_q, zq_r, zq_s, zq_t, zq_u, zq_v, zq_w, zq_x, zq_y, zq_z, zq_A, zq_B, zq_C, zq_D, zq_E, zq_F, zq_G, zq_H, zq_I, zq_J, zq_K, zq_L, ↓zq_M, ↓zq_N, ↓zq_O, ↓zq_P, ↓zq_Q, ↓zq_R, zq_S, zq_T, zq_U, zq_V, zq_W, zq_X, zq_Y, zq_Z, zq_0, zq_1, zq_2, zq_3, zq_4, zq_5, ↓zq_6, ↓zq_7, ↓zq_8, ↓zq_9, ↓zq_aa, zq_ab, zq_ac, zq_ad, zq_ae, zq_af, zq_ag, ↓zq_ah, ↓zq_ai, ↓zq_aj, zq_ak, ↓zq_al, ↓zq_am, g0, g3, g10, g11, g13, g193, g67, l1, m1, v1, n1, k1]
end
section
theorem c_sh5 {s : Int} {M M' : EM} (hs : s ∈ a_SH) (h : a_fr a_w5 M M') : M' s.toNat 5 = M s.toNat 5 := by
  have h2 : ∀ x ∈ a_SH, ∀ w ∈ a_w5, ¬ (w.1 = x.toNat ∧ w.2.1 ≤ 5 ∧ 5 ≤ w.2.2) := by decide +kernel
  exact h _ _ (h2 s hs)
theorem c_sh3 {s : Int} {M M' : EM} (hs : s ∈ a_SH) (h : a_fr a_w3 M M') : M' s.toNat 5 = M s.toNat 5 := by
  have h2 : ∀ x ∈ a_SH, ∀ w ∈ a_w3, ¬ (w.1 = x.toNat ∧ w.2.1 ≤ 5 ∧ 5 ≤ w.2.2) := by decide +kernel
  exact h _ _ (h2 s hs)
theorem c_spread_loop {s : Int} (hs : s ∈ a_SH) : ∀ (m : Nat) (i : Int) (M : EM), a_M M → (M s.toNat 5 - i).toNat ≤ m → 0 ≤ i → i ≤ M s.toNat 5 → M 170 0 = i → ∃ M', E_V 2 6 [170, s, i] M = some (0, M') ∧ a_M M' ∧ a_fr a_w5 M M' ∧ M' 170 0 = M s.toNat 5 := by
  obtain ⟨s1, s2, s3, s4⟩ := c_shelf hs
  have f5 : ∀ M, e_gf 517 [s] M = some (M s.toNat 5) := fun M => c_gf s1 (by decide +kernel)
  have f6 : ∀ M, e_gf 518 [s] M = some (e_gr s.toNat 6) := fun M => c_gr s1 (by decide +kernel)
  obtain ⟨-, e2, e3, -, -⟩ := c_el hs
  intro m
  induction m with
  | zero =>
    intro i M hM hm h0 h1 h2
    refine ⟨M, ?_, hM, a_fr_rf, by omega⟩
    have hlt : ¬ (i < M s.toNat 5) := by omega
    rw [E_V_eq]
    show e_tv E_C (E_V 2) e_t2_6 [170, s, i] M = _
    unfold e_t2_6
    simp [zq_a, zq_b, zq_c, zq_d, zq_e, zq_f, zq_g, zq_h, zq_i, zq_j, zq_k, zq_l, zq_m, zq_n, zq_o, zq_p, zq_q, zq_r, zq_s, zq_t, zq_u, zq_v, zq_w, zq_x, zq_y, zq_z, zq_A, zq_B, zq_C, zq_D, zq_E, zq_F, zq_G, zq_H, zq_I, zq_J, zq_K, zq_L, ↓zq_M, ↓zq_N, ↓zq_O, ↓zq_P, ↓zq_Q, ↓zq_R, zq_S, zq_T, zq_U, zq_V, zq_W, zq_X, zq_Y, zq_Z, zq_0, zq_1, zq_2, zq_3, zq_4, zq_5, ↓zq_6, ↓zq_7, ↓zq_8, ↓zq_9, ↓zq_aa, zq_ab, zq_ac, zq_ad, zq_ae, zq_af, zq_ag, ↓zq_ah, ↓zq_ai, ↓zq_aj, zq_ak, ↓zq_al, ↓zq_am, e_op, e_b2, f5, hlt]
  | succ m ih =>
    intro i M hM hm h0 h1 h2
    have hz := c_size hs hM
    by_cases hlt : i < M s.toNat 5
    · obtain ⟨v, v1, v2⟩ := c_at32 (i := i) hM (a := e_gr s.toNat 6) ⟨s2, s3, by rw [s4]⟩ e3 e2
      obtain ⟨M1, l1, l2, l3, l4⟩ := c_addCell (x := v) (y := i) hM v2 ⟨by omega, by omega⟩
      have h5 := c_sh5 hs l3
      have hw : e_w (i + 1) = i + 1 := a_w_id (by omega) (by omega)
      obtain ⟨M2, k1, k2, k3, k4⟩ := ih (i + 1) M1 l2 (by omega) (by omega) (by omega) (by rw [l4, h2, hw])
      refine ⟨M2, ?_, k2, a_fr_tr l3 k3, by rw [k4, h5]⟩
      rw [E_V_eq]
      show e_tv E_C (E_V 2) e_t2_6 [170, s, i] M = _
      unfold e_t2_6
      simp [zq_a, zq_b, zq_c, zq_d, zq_e, zq_f, zq_g, zq_h, zq_i, zq_j, zq_k, zq_l, zq_m, zq_n, zq_o, zq_p, zq_q, zq_r, zq_s, zq_t, zq_u, zq_v, zq_w, zq_x, zq_y, zq_z, zq_A, zq_B, zq_C, zq_D, zq_E, zq_F, zq_G, zq_H, zq_I, zq_J, zq_K, zq_L, ↓zq_M, ↓zq_N, ↓zq_O, ↓zq_P, ↓zq_Q, ↓zq_R, zq_S, zq_T, zq_U, zq_V, zq_W, zq_X, zq_Y, zq_Z, zq_0, zq_1, zq_2, zq_3, zq_4, zq_5, ↓zq_6, ↓zq_7, ↓zq_8, ↓zq_9, ↓zq_aa, zq_ab, zq_ac, zq_ad, zq_ae, zq_af, zq_ag, ↓zq_ah, ↓zq_ai, ↓zq_aj, zq_ak, ↓zq_al, ↓zq_am, e_op, e_b2, f5, f6, v1, l1, hlt, hw, k1]
    · refine ⟨M, ?_, hM, a_fr_rf, by omega⟩
      rw [E_V_eq]
      show e_tv E_C (E_V 2) e_t2_6 [170, s, i] M = _
      unfold e_t2_6
      simp [zq_a, zq_b, zq_c, zq_d, zq_e, zq_f, zq_g, zq_h, zq_i, zq_j, zq_k, zq_l, zq_m, zq_n, zq_o, zq_p, zq_q, zq_r, zq_s, zq_t, zq_u, zq_v, zq_w, zq_x, zq_y, zq_z, zq_A, zq_B, zq_C, zq_D, zq_E, zq_F, zq_G, zq_H, zq_I, zq_J, zq_K, zq_L, ↓zq_M, ↓zq_N, ↓zq_O, ↓zq_P, ↓zq_Q, ↓zq_R, zq_S, zq_T, zq_U, zq_V, zq_W, zq_X, zq_Y, zq_Z, zq_0, zq_1, zq_2, zq_3, zq_4, zq_5, ↓zq_6, ↓zq_7, ↓zq_8, ↓zq_9, ↓zq_aa, zq_ab, zq_ac, zq_ad, zq_ae, zq_af, zq_ag, ↓zq_ah, ↓zq_ai, ↓zq_aj, zq_ak, ↓zq_al, ↓zq_am, e_op, e_b2, f5, hlt]
def a_w2 : AW := a_w3 ++ a_w5
theorem c_spread {s : Int} {M : EM} (hs : s ∈ a_SH) (hM : a_M M) : ∃ M', E_C 2 [170, s] M = some (0, M') ∧ a_M M' ∧ a_fr a_w2 M M' ∧ M' 170 0 = M s.toNat 5 := by
  have h1 : E_C 2 [170, s] M = e_tv E_C (E_V 2) e_t2_0 [170, s, 0] M := by
    unfold E_C
    rw [if_pos (show e_rok 2 [170, s] = true from decide_eq_true c_isB), E_V_eq]
    rfl
  obtain ⟨r, M1, l1, l2, l3, l4⟩ := c_clear hM
  have h3 := c_sh3 hs l3
  have hz := c_size hs hM
  obtain ⟨M2, k1, k2, k3, k4⟩ := c_spread_loop hs _ 0 M1 l2 (Nat.le_refl _) (by decide) (by omega) l4
  refine ⟨M2, ?_, k2, a_fr_tr (c_sub_l l3) (c_sub_r k3), by rw [k4, h3]⟩
  rw [h1]
  unfold e_t2_0
  simp [zq_a, zq_b, zq_c, zq_d, zq_e, zq_f, zq_g, zq_h, zq_i, zq_j, zq_k, zq_l, zq_m, zq_n, zq_o, zq_p, zq_q, zq_r, zq_s, zq_t, zq_u, zq_v, zq_w, zq_x, zq_y, zq_z, zq_A, zq_B, zq_C, zq_D, zq_E, zq_F, zq_G, zq_H, zq_I, zq_J, zq_K, zq_L, ↓zq_M, ↓zq_N, ↓zq_O, ↓zq_P, ↓zq_Q, ↓zq_R, zq_S, zq_T, zq_U, zq_V, zq_W, zq_X, zq_Y, zq_Z, zq_0, zq_1, zq_2, zq_3, zq_4, zq_5, ↓zq_6, ↓zq_7, ↓zq_8, ↓zq_9, ↓zq_aa, zq_ab, zq_ac, zq_ad, zq_ae, zq_af, zq_ag, ↓zq_ah, ↓zq_ai, ↓zq_aj, zq_ak, ↓zq_al, ↓zq_am, l1, k1]
def a_w27 : AW := (170, 6, 6) :: (a_w270b ++ (a_w28 ++ (a_w22 ++ a_w11)))
theorem c_find_loop {all : Int} (ha : 0 ≤ all ∧ all ≤ 1000) : ∀ (m : Nat) (b r i : Int) (M : EM), a_M M → (all + 1 - i).toNat ≤ m → 0 ≤ i → i ≤ 1010 → (-2147483648 ≤ b ∧ b ≤ 2147483647) → (-2147483648 ≤ r ∧ r ≤ 2147483647) → a_OUT a_w27 a_T32 M (E_V 27 20 [170, b, r, all, i] M) := by
  have g1 : ∀ M, e_gf 1 [170] M = some (M 170 1) := fun M => c_gf c_isB (by decide +kernel)
  have g18 : ∀ M, e_gf 18 [170] M = some 181 := fun M => c_g 18 181 M (by decide +kernel)
  have p1 : ∀ v M, e_pf 1 [170, v] M = some (e_up M 170 1 v) := fun v M => c_pf c_isB (by decide +kernel)
  have p6 : ∀ v M, e_pf 6 [170, v] M = some (e_up M 170 6 v) := fun v M => c_pf c_isB (by decide +kernel)
  have hb : ∀ {M}, a_M M → -2147483648 ≤ M 170 1 ∧ M 170 1 ≤ 2147483647 := fun h => c_M32 h (by decide) (by decide +kernel)
  have hend : ∀ (b r i : Int) (M : EM), a_M M → ¬ (i ≤ all) → (-2147483648 ≤ b ∧ b ≤ 2147483647) → (-2147483648 ≤ r ∧ r ≤ 2147483647) → a_OUT a_w27 a_T32 M (E_V 27 20 [170, b, r, all, i] M) := by
    intro b r i M hM hlt hb hr
    obtain ⟨a1, b1⟩ := c_bup (W := a_w27) (M := M) (k := 1) (v := b) (by decide +kernel) hb hM
    refine ⟨r, _, ?_, a_T32_ok hr, a1, b1⟩
    rw [E_V_eq]
    show e_tv E_C (E_V 27) e_t27_20 [170, b, r, all, i] M = _
    unfold e_t27_20
    simp [zq_a, zq_b, zq_c, zq_d, zq_e, zq_f, zq_g, zq_h, zq_i, zq_j, zq_k, zq_l, zq_m, zq_n, zq_o, zq_p, zq_q, zq_r, zq_s, zq_t, zq_u, zq_v, zq_w, zq_x, zq_y, zq_z, zq_A, zq_B, zq_C, zq_D, zq_E, zq_F, zq_G, zq_H, zq_I, zq_J, zq_K, zq_L, ↓zq_M, ↓zq_N, ↓zq_O, ↓zq_P, ↓zq_Q, ↓zq_R, zq_S, zq_T, zq_U, zq_V, zq_W, zq_X, zq_Y, zq_Z, zq_0, zq_1, zq_2, zq_3, zq_4, zq_5, ↓zq_6, ↓zq_7, ↓zq_8, ↓zq_9, ↓zq_aa, zq_ab, zq_ac, zq_ad, zq_ae, zq_af, zq_ag, ↓zq_ah, ↓zq_ai, ↓zq_aj, zq_ak, ↓zq_al, ↓zq_am, e_op, e_b2, p1, hlt]
  intro m
  induction m with
  | zero => intro b r i M hM hm h0 h4 hb hr; exact hend b r i M hM (by omega) hb hr
  | succ m ih =>
    intro b r i M hM hm h0 h4 hbb hr
    by_cases hlt : i ≤ all
    · have h73 : ∀ (b r : Int) (M : EM), E_V 27 73 [170, b, r, all, i] M = E_V 27 20 [170, b, r, all, i + 2] M := by
        intro b r M
        have hw : e_w (i + 2) = i + 2 := a_w_id (by omega) (by omega)
        rw [E_V_eq]
        show e_tv E_C (E_V 27) e_t27_73 [170, b, r, all, i] M = _
        unfold e_t27_73
        simp [zq_a, zq_b, zq_c, zq_d, zq_e, zq_f, zq_g, zq_h, zq_i, zq_j, zq_k, zq_l, zq_m, zq_n, zq_o, zq_p, zq_q, zq_r, zq_s, zq_t, zq_u, zq_v, zq_w, zq_x, zq_y, zq_z, zq_A, zq_B, zq_C, zq_D, zq_E, zq_F, zq_G, zq_H, zq_I, zq_J, zq_K, zq_L, ↓zq_M, ↓zq_N, ↓zq_O, ↓zq_P, ↓zq_Q, ↓zq_R, zq_S, zq_T, zq_U, zq_V, zq_W, zq_X, zq_Y, zq_Z, zq_0, zq_1, zq_2, zq_3, zq_4, zq_5, ↓zq_6, ↓zq_7, ↓zq_8, ↓zq_9, ↓zq_aa, zq_ab, zq_ac, zq_ad, zq_ae, zq_af, zq_ag, ↓zq_ah, ↓zq_ai, ↓zq_aj, zq_ak, ↓zq_al, ↓zq_am, hw]
      obtain ⟨a1, b1⟩ := c_bup (W := a_w27) (M := M) (k := 6) (v := 0) (by decide +kernel) (by decide) hM
      obtain ⟨r1, M1, l1, -, l2, l3⟩ := a_entry a_c270b (as := [181, 0]) ⟨List.mem_cons_self, a_gi (by decide) (by decide), trivial⟩ a1
      obtain ⟨r2, M2, m1, -, m2, m3⟩ := a_entry a_c28 (as := [170, i]) ⟨List.mem_cons_self, a_gi (by omega) (by omega), trivial⟩ l2
      obtain ⟨r3, M3, n1, -, n2, n3⟩ := a_entry a_c28 (as := [170, e_w (all - i)]) ⟨List.mem_cons_self, a_gi (a_w _).1 (a_w _).2, trivial⟩ m2
      obtain ⟨r4, M4, o1, -, o2, o3⟩ := a_entry a_c22 (as := [170]) ⟨List.mem_cons_self, trivial⟩ n2
      have hf : a_fr a_w27 M M4 := a_fr_tr b1 (a_fr_tr (a_sub_fr (by decide +kernel) l3) (a_fr_tr (a_sub_fr (by decide +kernel) m3) (a_fr_tr (a_sub_fr (by decide +kernel) n3) (a_sub_fr (by decide +kernel) o3))))
      refine a_OUT_tr hf ?_
      by_cases hc : b < M4 170 1
      · have he : E_V 27 20 [170, b, r, all, i] M = E_V 27 20 [170, M4 170 1, i, all, i + 2] M4 := by
          rw [E_V_eq]
          show e_tv E_C (E_V 27) e_t27_20 [170, b, r, all, i] M = _
          unfold e_t27_20
          simp [zq_a, zq_b, zq_c, zq_d, zq_e, zq_f, zq_g, zq_h, zq_i, zq_j, zq_k, zq_l, zq_m, zq_n, zq_o, zq_p, zq_q, zq_r, zq_s, zq_t, zq_u, zq_v, zq_w, zq_x, zq_y, zq_z, zq_A, zq_B, zq_C, zq_D, zq_E, zq_F, zq_G, zq_H, zq_I, zq_J, zq_K, zq_L, ↓zq_M, ↓zq_N, ↓zq_O, ↓zq_P, ↓zq_Q, ↓zq_R, zq_S, zq_T, zq_U, zq_V, zq_W, zq_X, zq_Y, zq_Z, zq_0, zq_1, zq_2, zq_3, zq_4, zq_5, ↓zq_6, ↓zq_7, ↓zq_8, ↓zq_9, ↓zq_aa, zq_ab, zq_ac, zq_ad, zq_ae, zq_af, zq_ag, ↓zq_ah, ↓zq_ai, ↓zq_aj, zq_ak, ↓zq_al, ↓zq_am, e_op, e_b2, g1, g18, p6, l1, m1, n1, o1, hc, hlt, h73]
        rw [he]
        exact ih _ _ _ M4 o2 (by omega) (by omega) (by omega) (hb o2) ⟨by omega, by omega⟩
      · have he : E_V 27 20 [170, b, r, all, i] M = E_V 27 20 [170, b, r, all, i + 2] M4 := by
          rw [E_V_eq]
          show e_tv E_C (E_V 27) e_t27_20 [170, b, r, all, i] M = _
          unfold e_t27_20
          simp [zq_a, zq_b, zq_c, zq_d, zq_e, zq_f, zq_g, zq_h, zq_i, zq_j, zq_k, zq_l, zq_m, zq_n, zq_o, zq_p, zq_q, zq_r, zq_s, zq_t, zq_u, zq_v, zq_w, zq_x, zq_y, zq_z, zq_A, zq_B, zq_C, zq_D, zq_E, zq_F, zq_G, zq_H, zq_I, zq_J, zq_K, zq_L, ↓zq_M, ↓zq_N, ↓zq_O, ↓zq_P, ↓zq_Q, ↓zq_R, zq_S, zq_T, zq_U, zq_V, zq_W, zq_X, zq_Y, zq_Z, zq_0, zq_1, zq_2, zq_3, zq_4, zq_5, ↓zq_6, ↓zq_7, ↓zq_8, ↓zq_9, ↓zq_aa, zq_ab, zq_ac, zq_ad, zq_ae, zq_af, zq_ag, ↓zq_ah, ↓zq_ai, ↓zq_aj, zq_ak, ↓zq_al, ↓zq_am, e_op, e_b2, g1, g18, p6, l1, m1, n1, o1, hc, hlt, h73]
        rw [he]
        exact ih _ _ _ M4 o2 (by omega) (by omega) (by omega) hbb hr
    · exact hend b r i M hM hlt hbb hr
theorem c_shl {n : Int} (h : 2 ≤ n ∧ n ≤ 8) : 0 ≤ e_w (e_bit (fun x y => x <<< (y &&& 31)) 1 n - 1) ∧ e_w (e_bit (fun x y => x <<< (y &&& 31)) 1 n - 1) ≤ 1000 := by
  have h1 : ∀ k : Fin 9, 2 ≤ k.val → 0 ≤ e_w (e_bit (fun x y => x <<< (y &&& 31)) 1 (k.val : Int) - 1) ∧ e_w (e_bit (fun x y => x <<< (y &&& 31)) 1 (k.val : Int) - 1) ≤ 1000 := by decide +kernel
  have h2 := h1 ⟨n.toNat, by omega⟩ (show 2 ≤ n.toNat by omega)
  have h3 : ((⟨n.toNat, by omega⟩ : Fin 9).val : Int) = n := Int.toNat_of_nonneg (by omega)
  rw [h3] at h2
  exact h2
theorem c_find {M : EM} (hM : a_M M) (hn : 2 ≤ M 170 0 ∧ M 170 0 ≤ 8) : a_OUT a_w27 a_T32 M (E_C 27 [170] M) := by
  have h1 : E_C 27 [170] M = e_tv E_C (E_V 27) e_t27_0 [170, 0, 0, 0, 0] M := by
    unfold E_C
    rw [if_pos (show e_rok 27 [170] = true from decide_eq_true c_isB), E_V_eq]
    rfl
  have g0 : ∀ M, e_gf 0 [170] M = some (M 170 0) := fun M => c_gf c_isB (by decide +kernel)
  obtain ⟨r1, M1, l1, -, l2, l3⟩ := a_entry a_c11 (as := [170]) ⟨List.mem_cons_self, trivial⟩ hM
  have h0 : M1 170 0 = M 170 0 := l3 170 0 (by decide +kernel)
  refine a_OUT_tr (a_sub_fr (by decide +kernel) l3) ?_
  have hs := c_shl hn
  rw [← h0] at hs
  have he : E_C 27 [170] M = E_V 27 20 [170, -1, 0, e_w (e_bit (fun x y => x <<< (y &&& 31)) 1 (M1 170 0) - 1), 2] M1 := by
    rw [h1]
    unfold e_t27_0
    simp [zq_a, zq_b, zq_c, zq_d, zq_e, zq_f, zq_g, zq_h, zq_i, zq_j, zq_k, zq_l, zq_m, zq_n, zq_o, zq_p, zq_q, zq_r, zq_s, zq_t, zq_u, zq_v, zq_w, zq_x, zq_y, zq_z, zq_A, zq_B, zq_C, zq_D, zq_E, zq_F, zq_G, zq_H, zq_I, zq_J, zq_K, zq_L, ↓zq_M, ↓zq_N, ↓zq_O, ↓zq_P, ↓zq_Q, ↓zq_R, zq_S, zq_T, zq_U, zq_V, zq_W, zq_X, zq_Y, zq_Z, zq_0, zq_1, zq_2, zq_3, zq_4, zq_5, ↓zq_6, ↓zq_7, ↓zq_8, ↓zq_9, ↓zq_aa, zq_ab, zq_ac, zq_ad, zq_ae, zq_af, zq_ag, ↓zq_ah, ↓zq_ai, ↓zq_aj, zq_ak, ↓zq_al, ↓zq_am, e_op, e_b2, g0, l1]
  rw [he]
  exact c_find_loop hs _ _ _ _ M1 l2 (Nat.le_refl _) (by decide) (by decide) (by decide) (by decide)
end
