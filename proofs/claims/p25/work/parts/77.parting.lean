section
theorem c_refusal {s d : Int} {M : EM} (hs : s = -1 ∨ s ∈ a_SH) (hM : a_M M) (hd : -2147483648 ≤ d ∧ d ≤ 2147483647) : ∃ r, E_C 156 [s, d] M = some (r, M) ∧ -2147483648 ≤ r ∧ r ≤ 2147483647 := by
  obtain ⟨r, M', h1, h2, h3, h4⟩ := a_entry a_c156 (as := [s, d]) ⟨List.mem_cons.mpr hs, a_gi hd.1 hd.2, trivial⟩ hM
  have := c_same h4
  subst this
  have hr : a_rho 156 = a_i (-12) 0 := by rfl
  rw [hr] at h2
  have a1 : -12 ≤ r := h2.1
  have a2 : r ≤ 0 := h2.2.1
  exact ⟨r, h1, by omega, by omega⟩
theorem c_tells {s : Int} {M : EM} (hs : s ∈ a_SH) (hM : a_M M) : ∃ r, E_C 163 [8, s] M = some (r, M) ∧ (r ≠ 0 → 2 ≤ M s.toNat 5 ∧ M s.toNat 5 ≤ 8) := by
  obtain ⟨s1, s2, s3, s4⟩ := c_shelf hs
  have f5 : ∀ M, e_gf 517 [s] M = some (M s.toNat 5) := fun M => c_gf s1 (by decide +kernel)
  by_cases hc : 2 ≤ M s.toNat 5 ∧ M s.toNat 5 ≤ 8
  · obtain ⟨r, M', h1, h2, h3, h4⟩ := a_entry a_c163 (as := [8, s]) ⟨List.mem_cons_self, hs, trivial⟩ hM
    have := c_same h4
    subst this
    exact ⟨r, h1, fun _ => hc⟩
  · refine ⟨0, ?_, fun h => absurd rfl h⟩
    have h1 : E_C 163 [8, s] M = e_tv E_C (E_V 163) e_t163_0 [8, s, 0, 0] M := by
      unfold E_C
      rw [if_pos (show e_rok 163 [8, s] = true from decide_eq_true c_this), E_V_eq]
      rfl
    rw [h1]
    unfold e_t163_0
    by_cases q1 : 2 ≤ M s.toNat 5
    · have q2 : 8 < M s.toNat 5 := by omega
      simp [zq_a, zq_b, zq_c, zq_d, zq_e, zq_f, zq_g, zq_h, zq_i, zq_j, zq_k, zq_l, zq_m, zq_n, zq_o, zq_p, zq_q, zq_r, zq_s, zq_t, zq_u, zq_v, zq_w, zq_x, zq_y, zq_z, zq_A, zq_B, zq_C, zq_D, zq_E, zq_F, zq_G, zq_H, zq_I, zq_J, zq_K, zq_L, ↓zq_M, ↓zq_N, ↓zq_O, ↓zq_P, ↓zq_Q, ↓zq_R, zq_S, zq_T, zq_U, zq_V, zq_W, zq_X, zq_Y, zq_Z, zq_0, zq_1, zq_2, zq_3, zq_4, zq_5, ↓zq_6, ↓zq_7, ↓zq_8, ↓zq_9, ↓zq_aa, zq_ab, zq_ac, zq_ad, zq_ae, zq_af, zq_ag, ↓zq_ah, ↓zq_ai, ↓zq_aj, zq_ak, ↓zq_al, ↓zq_am, e_op, e_b2, f5, q1, q2]
    · simp [zq_a, zq_b, zq_c, zq_d, zq_e, zq_f, zq_g, zq_h, zq_i, zq_j, zq_k, zq_l, zq_m, zq_n, zq_o, zq_p, zq_q, zq_r, zq_s, zq_t, zq_u, zq_v, zq_w, zq_x, zq_y, zq_z, zq_A, zq_B, zq_C, zq_D, zq_E, zq_F, zq_G, zq_H, zq_I, zq_J, zq_K, zq_L, ↓zq_M, ↓zq_N, ↓zq_O, ↓zq_P, ↓zq_Q, ↓zq_R, zq_S, zq_T, zq_U, zq_V, zq_W, zq_X, zq_Y, zq_Z, zq_0, zq_1, zq_2, zq_3, zq_4, zq_5, ↓zq_6, ↓zq_7, ↓zq_8, ↓zq_9, ↓zq_aa, zq_ab, zq_ac, zq_ad, zq_ae, zq_af, zq_ag, ↓zq_ah, ↓zq_ai, ↓zq_aj, zq_ak, ↓zq_al, ↓zq_am, e_op, e_b2, f5, q1]
def a_w127 : AW := a_w2 ++ a_w27
theorem c_parting {d w : Int} {M : EM} (hM : a_M M) (hd : -2147483648 ≤ d ∧ d ≤ 2147483647) : a_OUT a_w127 a_T32 M (E_C 127 [8, d, w] M) := by
  have h1 : E_C 127 [8, d, w] M = e_tv E_C (E_V 127) e_t127_0 [8, d, w, 0, 0, 0] M := by
    unfold E_C
    rw [if_pos (show e_rok 127 [8, d, w] = true from decide_eq_true c_this), E_V_eq]
    rfl
  rw [h1]
  unfold e_t127_0
  obtain ⟨s, s1, s2⟩ := c_shelfAt hM hd
  by_cases q0 : w < 0
  · have q0' : ¬ (0 ≤ w) := by omega
    exact ⟨-1, M, by simp [zq_a, zq_b, zq_c, zq_d, zq_e, zq_f, zq_g, zq_h, zq_i, zq_j, zq_k, zq_l, zq_m, zq_n, zq_o, zq_p, zq_q, zq_r, zq_s, zq_t, zq_u, zq_v, zq_w, zq_x, zq_y, zq_z, zq_A, zq_B, zq_C, zq_D, zq_E, zq_F, zq_G, zq_H, zq_I, zq_J, zq_K, zq_L, ↓zq_M, ↓zq_N, ↓zq_O, ↓zq_P, ↓zq_Q, ↓zq_R, zq_S, zq_T, zq_U, zq_V, zq_W, zq_X, zq_Y, zq_Z, zq_0, zq_1, zq_2, zq_3, zq_4, zq_5, ↓zq_6, ↓zq_7, ↓zq_8, ↓zq_9, ↓zq_aa, zq_ab, zq_ac, zq_ad, zq_ae, zq_af, zq_ag, ↓zq_ah, ↓zq_ai, ↓zq_aj, zq_ak, ↓zq_al, ↓zq_am, e_op, e_b1, e_b2, s1, q0, q0'], a_T32_ok (by decide), hM, a_fr_rf⟩
  · have q0' : 0 ≤ w := by omega
    by_cases q1 : 1 < w
    · exact ⟨-1, M, by simp [zq_a, zq_b, zq_c, zq_d, zq_e, zq_f, zq_g, zq_h, zq_i, zq_j, zq_k, zq_l, zq_m, zq_n, zq_o, zq_p, zq_q, zq_r, zq_s, zq_t, zq_u, zq_v, zq_w, zq_x, zq_y, zq_z, zq_A, zq_B, zq_C, zq_D, zq_E, zq_F, zq_G, zq_H, zq_I, zq_J, zq_K, zq_L, ↓zq_M, ↓zq_N, ↓zq_O, ↓zq_P, ↓zq_Q, ↓zq_R, zq_S, zq_T, zq_U, zq_V, zq_W, zq_X, zq_Y, zq_Z, zq_0, zq_1, zq_2, zq_3, zq_4, zq_5, ↓zq_6, ↓zq_7, ↓zq_8, ↓zq_9, ↓zq_aa, zq_ab, zq_ac, zq_ad, zq_ae, zq_af, zq_ag, ↓zq_ah, ↓zq_ai, ↓zq_aj, zq_ak, ↓zq_al, ↓zq_am, e_op, e_b1, e_b2, s1, q0, q0', q1], a_T32_ok (by decide), hM, a_fr_rf⟩
    · obtain ⟨r, r1, r2⟩ := c_refusal (d := 0) s2 hM (by decide)
      by_cases q2 : r = 0
      · subst q2
        by_cases q3 : s = -1
        · subst q3
          exact ⟨0, M, by simp [zq_a, zq_b, zq_c, zq_d, zq_e, zq_f, zq_g, zq_h, zq_i, zq_j, zq_k, zq_l, zq_m, zq_n, zq_o, zq_p, zq_q, zq_r, zq_s, zq_t, zq_u, zq_v, zq_w, zq_x, zq_y, zq_z, zq_A, zq_B, zq_C, zq_D, zq_E, zq_F, zq_G, zq_H, zq_I, zq_J, zq_K, zq_L, ↓zq_M, ↓zq_N, ↓zq_O, ↓zq_P, ↓zq_Q, ↓zq_R, zq_S, zq_T, zq_U, zq_V, zq_W, zq_X, zq_Y, zq_Z, zq_0, zq_1, zq_2, zq_3, zq_4, zq_5, ↓zq_6, ↓zq_7, ↓zq_8, ↓zq_9, ↓zq_aa, zq_ab, zq_ac, zq_ad, zq_ae, zq_af, zq_ag, ↓zq_ah, ↓zq_ai, ↓zq_aj, zq_ak, ↓zq_al, ↓zq_am, e_op, e_b1, e_b2, s1, q0, q0', q1, r1], a_T32_ok r2, hM, a_fr_rf⟩
        · have hs := s2.resolve_left q3
          obtain ⟨t, t1, t2⟩ := c_tells hs hM
          by_cases q4 : t = 0
          · subst q4
            exact ⟨-13, M, by simp [zq_a, zq_b, zq_c, zq_d, zq_e, zq_f, zq_g, zq_h, zq_i, zq_j, zq_k, zq_l, zq_m, zq_n, zq_o, zq_p, zq_q, zq_r, zq_s, zq_t, zq_u, zq_v, zq_w, zq_x, zq_y, zq_z, zq_A, zq_B, zq_C, zq_D, zq_E, zq_F, zq_G, zq_H, zq_I, zq_J, zq_K, zq_L, ↓zq_M, ↓zq_N, ↓zq_O, ↓zq_P, ↓zq_Q, ↓zq_R, zq_S, zq_T, zq_U, zq_V, zq_W, zq_X, zq_Y, zq_Z, zq_0, zq_1, zq_2, zq_3, zq_4, zq_5, ↓zq_6, ↓zq_7, ↓zq_8, ↓zq_9, ↓zq_aa, zq_ab, zq_ac, zq_ad, zq_ae, zq_af, zq_ag, ↓zq_ah, ↓zq_ai, ↓zq_aj, zq_ak, ↓zq_al, ↓zq_am, e_op, e_b1, e_b2, s1, q0, q0', q1, r1, q3, t1], a_T32_ok (by decide), hM, a_fr_rf⟩
          · have hn := t2 q4
            obtain ⟨M1, l1, l2, l3, l4⟩ := c_spread hs hM
            obtain ⟨v, M2, m1, m2, m3, m4⟩ := c_find l2 (by rw [l4]; exact hn)
            have hf : a_fr a_w127 M M2 := a_fr_tr (c_sub_l l3) (c_sub_r m4)
            by_cases q5 : w = 0
            · subst q5
              have g1 : ∀ M, e_gf 1 [170] M = some (M 170 1) := fun M => c_gf c_isB (by decide +kernel)
              exact ⟨M2 170 1, M2, by simp [zq_a, zq_b, zq_c, zq_d, zq_e, zq_f, zq_g, zq_h, zq_i, zq_j, zq_k, zq_l, zq_m, zq_n, zq_o, zq_p, zq_q, zq_r, zq_s, zq_t, zq_u, zq_v, zq_w, zq_x, zq_y, zq_z, zq_A, zq_B, zq_C, zq_D, zq_E, zq_F, zq_G, zq_H, zq_I, zq_J, zq_K, zq_L, ↓zq_M, ↓zq_N, ↓zq_O, ↓zq_P, ↓zq_Q, ↓zq_R, zq_S, zq_T, zq_U, zq_V, zq_W, zq_X, zq_Y, zq_Z, zq_0, zq_1, zq_2, zq_3, zq_4, zq_5, ↓zq_6, ↓zq_7, ↓zq_8, ↓zq_9, ↓zq_aa, zq_ab, zq_ac, zq_ad, zq_ae, zq_af, zq_ag, ↓zq_ah, ↓zq_ai, ↓zq_aj, zq_ak, ↓zq_al, ↓zq_am, e_op, e_b1, e_b2, s1, r1, q3, t1, q4, c_bench, l1, m1, g1], a_T32_ok (c_M32 m3 (by decide) (by decide +kernel)), m3, hf⟩
            · exact ⟨v, M2, by simp [zq_a, zq_b, zq_c, zq_d, zq_e, zq_f, zq_g, zq_h, zq_i, zq_j, zq_k, zq_l, zq_m, zq_n, zq_o, zq_p, zq_q, zq_r, zq_s, zq_t, zq_u, zq_v, zq_w, zq_x, zq_y, zq_z, zq_A, zq_B, zq_C, zq_D, zq_E, zq_F, zq_G, zq_H, zq_I, zq_J, zq_K, zq_L, ↓zq_M, ↓zq_N, ↓zq_O, ↓zq_P, ↓zq_Q, ↓zq_R, zq_S, zq_T, zq_U, zq_V, zq_W, zq_X, zq_Y, zq_Z, zq_0, zq_1, zq_2, zq_3, zq_4, zq_5, ↓zq_6, ↓zq_7, ↓zq_8, ↓zq_9, ↓zq_aa, zq_ab, zq_ac, zq_ad, zq_ae, zq_af, zq_ag, ↓zq_ah, ↓zq_ai, ↓zq_aj, zq_ak, ↓zq_al, ↓zq_am, e_op, e_b1, e_b2, s1, q0, q0', q1, r1, q3, t1, q4, c_bench, l1, m1, q5], m2, m3, hf⟩
      · exact ⟨r, M, by simp [zq_a, zq_b, zq_c, zq_d, zq_e, zq_f, zq_g, zq_h, zq_i, zq_j, zq_k, zq_l, zq_m, zq_n, zq_o, zq_p, zq_q, zq_r, zq_s, zq_t, zq_u, zq_v, zq_w, zq_x, zq_y, zq_z, zq_A, zq_B, zq_C, zq_D, zq_E, zq_F, zq_G, zq_H, zq_I, zq_J, zq_K, zq_L, ↓zq_M, ↓zq_N, ↓zq_O, ↓zq_P, ↓zq_Q, ↓zq_R, zq_S, zq_T, zq_U, zq_V, zq_W, zq_X, zq_Y, zq_Z, zq_0, zq_1, zq_2, zq_3, zq_4, zq_5, ↓zq_6, ↓zq_7, ↓zq_8, ↓zq_9, ↓zq_aa, zq_ab, zq_ac, zq_ad, zq_ae, zq_af, zq_ag, ↓zq_ah, ↓zq_ai, ↓zq_aj, zq_ak, ↓zq_al, ↓zq_am, e_op, e_b1, e_b2, s1, q0, q0', q1, r1, q2], a_T32_ok r2, hM, a_fr_rf⟩
end
section
/-! THE REFERENCE (object 192; 193 its row s, 195 the kept sorts, 196 kinds of elements, 197 sizes, 198 elements) -/
theorem r_ref : e_isO 12 192 := by decide +kernel
theorem r_g (k : Nat) (v : Int) (M : EM) (h : e_fty k = 2 ∧ k / 64 = 12 ∧ e_gr 192 (k % 64) = v) : e_gf k [192] M = some v := by
  obtain ⟨h1, h2, h3⟩ := h
  rw [c_gr (by rw [h2]; exact r_ref) h1]
  exact congrArg some h3
theorem r_st {a i v : Int} {n : Nat} {M : EM} (h8 : 8 ≤ a) (ha : a.toNat < e_N) (hs : e_sh a.toNat = (100, n)) (h0 : 0 ≤ i) (hi : i < n) : e_st 100 [a, i, v] M = some (e_up M a.toNat i.toNat v) := by
  refine if_pos ⟨h8, by omega, ha, by rw [hs], h0, ?_⟩
  unfold e_sz
  rw [if_neg (by omega), hs]
  show i.toNat < n
  omega
theorem r_ld {a i : Int} {n : Nat} {M : EM} (h8 : 8 ≤ a) (ha : a.toNat < e_N) (hs : e_sh a.toNat = (100, n)) (h0 : 0 ≤ i) (hi : i < n) : e_op 60 [a, i] M = some (M a.toNat i.toNat) := by
  have hin : e_in2 M 100 a i := by
    refine ⟨by omega, ha, by rw [hs], h0, ?_⟩
    unfold e_sz
    rw [if_neg (by omega), hs]
    show i.toNat < n
    omega
  simp only [e_op, if_pos]
  rw [if_pos hin]
theorem r_isIn (x lo hi : Int) (M : EM) : E_C 168 [x, lo, hi] M = some (if lo ≤ x ∧ x ≤ hi then 1 else 0, M) := by
  have h1 : E_C 168 [x, lo, hi] M = e_tv E_C (E_V 168) e_t168_0 [x, 0, lo, 0, hi, 0] M := by
    unfold E_C
    rw [if_pos (show e_rok 168 [x, lo, hi] = true from rfl), E_V_eq]
    rfl
  rw [h1]
  unfold e_t168_0
  by_cases q0 : lo ≤ x
  · by_cases q1 : x ≤ hi
    · simp [zq_a, zq_b, zq_c, zq_d, zq_e, zq_f, zq_g, zq_h, zq_i, zq_j, zq_k, zq_l, zq_m, zq_n, zq_o, zq_p, zq_q, zq_r, zq_s, zq_t, zq_u, zq_v, zq_w, zq_x, zq_y, zq_z, zq_A, zq_B, zq_C, zq_D, zq_E, zq_F, zq_G, zq_H, zq_I, zq_J, zq_K, zq_L, ↓zq_M, ↓zq_N, ↓zq_O, ↓zq_P, ↓zq_Q, ↓zq_R, zq_S, zq_T, zq_U, zq_V, zq_W, zq_X, zq_Y, zq_Z, zq_0, zq_1, zq_2, zq_3, zq_4, zq_5, ↓zq_6, ↓zq_7, ↓zq_8, ↓zq_9, ↓zq_aa, zq_ab, zq_ac, zq_ad, zq_ae, zq_af, zq_ag, ↓zq_ah, ↓zq_ai, ↓zq_aj, zq_ak, ↓zq_al, ↓zq_am, e_op, e_b2, q0, q1]
    · simp [zq_a, zq_b, zq_c, zq_d, zq_e, zq_f, zq_g, zq_h, zq_i, zq_j, zq_k, zq_l, zq_m, zq_n, zq_o, zq_p, zq_q, zq_r, zq_s, zq_t, zq_u, zq_v, zq_w, zq_x, zq_y, zq_z, zq_A, zq_B, zq_C, zq_D, zq_E, zq_F, zq_G, zq_H, zq_I, zq_J, zq_K, zq_L, ↓zq_M, ↓zq_N, ↓zq_O, ↓zq_P, ↓zq_Q, ↓zq_R, zq_S, zq_T, zq_U, zq_V, zq_W, zq_X, zq_Y, zq_Z, zq_0, zq_1, zq_2, zq_3, zq_4, zq_5, ↓zq_6, ↓zq_7, ↓zq_8, ↓zq_9, ↓zq_aa, zq_ab, zq_ac, zq_ad, zq_ae, zq_af, zq_ag, ↓zq_ah, ↓zq_ai, ↓zq_aj, zq_ak, ↓zq_al, ↓zq_am, e_op, e_b2, q0, q1]
  · simp [zq_a, zq_b, zq_c, zq_d, zq_e, zq_f, zq_g, zq_h, zq_i, zq_j, zq_k, zq_l, zq_m, zq_n, zq_o, zq_p, zq_q, zq_r, zq_s, zq_t, zq_u, zq_v, zq_w, zq_x, zq_y, zq_z, zq_A, zq_B, zq_C, zq_D, zq_E, zq_F, zq_G, zq_H, zq_I, zq_J, zq_K, zq_L, ↓zq_M, ↓zq_N, ↓zq_O, ↓zq_P, ↓zq_Q, ↓zq_R, zq_S, zq_T, zq_U, zq_V, zq_W, zq_X, zq_Y, zq_Z, zq_0, zq_1, zq_2, zq_3, zq_4, zq_5, ↓zq_6, ↓zq_7, ↓zq_8, ↓zq_9, ↓zq_aa, zq_ab, zq_ac, zq_ad, zq_ae, zq_af, zq_ag, ↓zq_ah, ↓zq_ai, ↓zq_aj, zq_ak, ↓zq_al, ↓zq_am, e_op, e_b2, q0]
theorem r_isShelf (d : Int) (M : EM) : E_C 173 [d] M = some (if 0 ≤ d ∧ d ≤ 7 then 1 else 0, M) := by
  have h1 : E_C 173 [d] M = e_tv E_C (E_V 173) e_t173_0 [d] M := by
    unfold E_C
    rw [if_pos (show e_rok 173 [d] = true from rfl), E_V_eq]
    rfl
  rw [h1]
  unfold e_t173_0
  simp [zq_a, zq_b, zq_c, zq_d, zq_e, zq_f, zq_g, zq_h, zq_i, zq_j, zq_k, zq_l, zq_m, zq_n, zq_o, zq_p, zq_q, zq_r, zq_s, zq_t, zq_u, zq_v, zq_w, zq_x, zq_y, zq_z, zq_A, zq_B, zq_C, zq_D, zq_E, zq_F, zq_G, zq_H, zq_I, zq_J, zq_K, zq_L, ↓zq_M, ↓zq_N, ↓zq_O, ↓zq_P, ↓zq_Q, ↓zq_R, zq_S, zq_T, zq_U, zq_V, zq_W, zq_X, zq_Y, zq_Z, zq_0, zq_1, zq_2, zq_3, zq_4, zq_5, ↓zq_6, ↓zq_7, ↓zq_8, ↓zq_9, ↓zq_aa, zq_ab, zq_ac, zq_ad, zq_ae, zq_af, zq_ag, ↓zq_ah, ↓zq_ai, ↓zq_aj, zq_ak, ↓zq_al, ↓zq_am, e_op, e_b1, r_isIn]
theorem r_up {M : EM} {a k : Nat} {v : Int} (h5 : a ≠ 5) (ho : a ≠ e_OUT) (hm : a_mi a = []) (hv : -2147483648 ≤ v ∧ v ≤ 2147483647) (hM : a_M M) : a_M (e_up M a k v) := by
  intro b j hb
  by_cases hc : b = a ∧ j = k
  · obtain ⟨rfl, rfl⟩ := hc
    rw [c_up_s]
    refine ⟨?_, ?_, fun s hs => ?_⟩
    · unfold a_lo; rw [if_neg ho]; exact hv.1
    · unfold a_hi; rw [if_neg ho]; exact hv.2
    · rw [hm] at hs; cases hs
  · rw [c_up_n hc]; exact hM b j hb
theorem r_row_loop {d k n : Int} (hd : 0 ≤ d ∧ d ≤ 7) : ∀ (m : Nat) (i : Int) (M : EM), a_M M → (120 - i).toNat ≤ m → 0 ≤ i → i ≤ 120 → ∃ M', E_V 259 58 [192, d, k, n, i] M = some (0, M') ∧ a_M M' ∧ a_fr [(198, 0, 959)] M M' := by
  have g5 : ∀ M, e_gf 773 [192] M = some 198 := fun M => r_g 773 198 M (by decide +kernel)
  intro m
  induction m with
  | zero =>
    intro i M hM hm h0 h1
    refine ⟨M, ?_, hM, a_fr_rf⟩
    have hlt : ¬ (i < 120) := by omega
    rw [E_V_eq]
    show e_tv E_C (E_V 259) e_t259_58 [192, d, k, n, i] M = _
    unfold e_t259_58
    simp [zq_a, zq_b, zq_c, zq_d, zq_e, zq_f, zq_g, zq_h, zq_i, zq_j, zq_k, zq_l, zq_m, zq_n, zq_o, zq_p, zq_q, zq_r, zq_s, zq_t, zq_u, zq_v, zq_w, zq_x, zq_y, zq_z, zq_A, zq_B, zq_C, zq_D, zq_E, zq_F, zq_G, zq_H, zq_I, zq_J, zq_K, zq_L, ↓zq_M, ↓zq_N, ↓zq_O, ↓zq_P, ↓zq_Q, ↓zq_R, zq_S, zq_T, zq_U, zq_V, zq_W, zq_X, zq_Y, zq_Z, zq_0, zq_1, zq_2, zq_3, zq_4, zq_5, ↓zq_6, ↓zq_7, ↓zq_8, ↓zq_9, ↓zq_aa, zq_ab, zq_ac, zq_ad, zq_ae, zq_af, zq_ag, ↓zq_ah, ↓zq_ai, ↓zq_aj, zq_ak, ↓zq_al, ↓zq_am, e_op, e_b2, hlt]
  | succ m ih =>
    intro i M hM hm h0 h1
    by_cases hlt : i < 120
    · have w1 : e_w (120 * d) = 120 * d := a_w_id (by omega) (by omega)
      have w2 : e_w (120 * d + i) = 120 * d + i := a_w_id (by omega) (by omega)
      have w3 : e_w (i + 1) = i + 1 := a_w_id (by omega) (by omega)
      have st : e_st 100 [198, 120 * d + i, 0] M = some (e_up M 198 (120 * d + i).toNat 0) := r_st (n := 960) (by decide) (by decide +kernel) (by decide +kernel) (by omega) (by omega)
      obtain ⟨M', k1, k2, k3⟩ := ih (i + 1) _ (r_up (M := M) (a := 198) (k := (120 * d + i).toNat) (v := 0) (by decide) (by decide +kernel) (by decide +kernel) (by decide) hM) (by omega) (by omega) (by omega)
      refine ⟨M', ?_, k2, a_fr_tr (fun b j hw => ?_) k3⟩
      · rw [E_V_eq]
        show e_tv E_C (E_V 259) e_t259_58 [192, d, k, n, i] M = _
        unfold e_t259_58
        simp [zq_a, zq_b, zq_c, zq_d, zq_e, zq_f, zq_g, zq_h, zq_i, zq_j, zq_k, zq_l, zq_m, zq_n, zq_o, zq_p, zq_q, zq_r, zq_s, zq_t, zq_u, zq_v, zq_w, zq_x, zq_y, zq_z, zq_A, zq_B, zq_C, zq_D, zq_E, zq_F, zq_G, zq_H, zq_I, zq_J, zq_K, zq_L, ↓zq_M, ↓zq_N, ↓zq_O, ↓zq_P, ↓zq_Q, ↓zq_R, zq_S, zq_T, zq_U, zq_V, zq_W, zq_X, zq_Y, zq_Z, zq_0, zq_1, zq_2, zq_3, zq_4, zq_5, ↓zq_6, ↓zq_7, ↓zq_8, ↓zq_9, ↓zq_aa, zq_ab, zq_ac, zq_ad, zq_ae, zq_af, zq_ag, ↓zq_ah, ↓zq_ai, ↓zq_aj, zq_ak, ↓zq_al, ↓zq_am, e_op, e_b2, g5, w1, w2, w3, hlt, st, k1]
      · refine c_up_n (fun hc => hw _ List.mem_cons_self ⟨hc.1.symm, Nat.zero_le _, ?_⟩)
        have := hc.2
        show j ≤ 959
        omega
    · refine ⟨M, ?_, hM, a_fr_rf⟩
      rw [E_V_eq]
      show e_tv E_C (E_V 259) e_t259_58 [192, d, k, n, i] M = _
      unfold e_t259_58
      simp [zq_a, zq_b, zq_c, zq_d, zq_e, zq_f, zq_g, zq_h, zq_i, zq_j, zq_k, zq_l, zq_m, zq_n, zq_o, zq_p, zq_q, zq_r, zq_s, zq_t, zq_u, zq_v, zq_w, zq_x, zq_y, zq_z, zq_A, zq_B, zq_C, zq_D, zq_E, zq_F, zq_G, zq_H, zq_I, zq_J, zq_K, zq_L, ↓zq_M, ↓zq_N, ↓zq_O, ↓zq_P, ↓zq_Q, ↓zq_R, zq_S, zq_T, zq_U, zq_V, zq_W, zq_X, zq_Y, zq_Z, zq_0, zq_1, zq_2, zq_3, zq_4, zq_5, ↓zq_6, ↓zq_7, ↓zq_8, ↓zq_9, ↓zq_aa, zq_ab, zq_ac, zq_ad, zq_ae, zq_af, zq_ag, ↓zq_ah, ↓zq_ai, ↓zq_aj, zq_ak, ↓zq_al, ↓zq_am, e_op, e_b2, hlt]
def r_w259 : AW := [(195, 0, 7), (196, 0, 7), (197, 0, 7), (198, 0, 959)]
theorem r_row {d k n : Int} {M : EM} (hM : a_M M) (hn : n ≤ 2147483647) : ∃ M', E_C 259 [192, d, k, n] M = some (if 0 ≤ d ∧ d ≤ 7 ∧ 0 ≤ k ∧ k ≤ 2 ∧ n ≤ 120 then (if n < 0 then -14 else 0) else -1, M') ∧ a_M M' ∧ a_fr r_w259 M M' ∧ (∀ j, M' 197 j = M 197 j ∨ (0 ≤ M' 197 j ∧ M' 197 j ≤ 120)) := by
  have h1 : E_C 259 [192, d, k, n] M = e_tv E_C (E_V 259) e_t259_0 [192, d, k, n, 0] M := by
    unfold E_C
    rw [if_pos (show e_rok 259 [192, d, k, n] = true from decide_eq_true r_ref), E_V_eq]
    rfl
  have g2 : ∀ M, e_gf 770 [192] M = some 195 := fun M => r_g 770 195 M (by decide +kernel)
  have g3 : ∀ M, e_gf 771 [192] M = some 196 := fun M => r_g 771 196 M (by decide +kernel)
  have g4 : ∀ M, e_gf 772 [192] M = some 197 := fun M => r_g 772 197 M (by decide +kernel)
  rw [h1]
  unfold e_t259_0
  by_cases q0 : 0 ≤ d ∧ d ≤ 7
  · by_cases q1 : 0 ≤ k ∧ k ≤ 2
    · by_cases q2 : 120 < n
      · refine ⟨M, ?_, hM, a_fr_rf, fun j => Or.inl rfl⟩
        have q2' : ¬ (n ≤ 120) := by omega
        simp [zq_a, zq_b, zq_c, zq_d, zq_e, zq_f, zq_g, zq_h, zq_i, zq_j, zq_k, zq_l, zq_m, zq_n, zq_o, zq_p, zq_q, zq_r, zq_s, zq_t, zq_u, zq_v, zq_w, zq_x, zq_y, zq_z, zq_A, zq_B, zq_C, zq_D, zq_E, zq_F, zq_G, zq_H, zq_I, zq_J, zq_K, zq_L, ↓zq_M, ↓zq_N, ↓zq_O, ↓zq_P, ↓zq_Q, ↓zq_R, zq_S, zq_T, zq_U, zq_V, zq_W, zq_X, zq_Y, zq_Z, zq_0, zq_1, zq_2, zq_3, zq_4, zq_5, ↓zq_6, ↓zq_7, ↓zq_8, ↓zq_9, ↓zq_aa, zq_ab, zq_ac, zq_ad, zq_ae, zq_af, zq_ag, ↓zq_ah, ↓zq_ai, ↓zq_aj, zq_ak, ↓zq_al, ↓zq_am, e_op, e_b1, e_b2, r_isShelf, r_isIn, q0, q1, q2, q2']
      · have q2' : n ≤ 120 := by omega
        by_cases q3 : n < 0
        · refine ⟨M, ?_, hM, a_fr_rf, fun j => Or.inl rfl⟩
          simp [zq_a, zq_b, zq_c, zq_d, zq_e, zq_f, zq_g, zq_h, zq_i, zq_j, zq_k, zq_l, zq_m, zq_n, zq_o, zq_p, zq_q, zq_r, zq_s, zq_t, zq_u, zq_v, zq_w, zq_x, zq_y, zq_z, zq_A, zq_B, zq_C, zq_D, zq_E, zq_F, zq_G, zq_H, zq_I, zq_J, zq_K, zq_L, ↓zq_M, ↓zq_N, ↓zq_O, ↓zq_P, ↓zq_Q, ↓zq_R, zq_S, zq_T, zq_U, zq_V, zq_W, zq_X, zq_Y, zq_Z, zq_0, zq_1, zq_2, zq_3, zq_4, zq_5, ↓zq_6, ↓zq_7, ↓zq_8, ↓zq_9, ↓zq_aa, zq_ab, zq_ac, zq_ad, zq_ae, zq_af, zq_ag, ↓zq_ah, ↓zq_ai, ↓zq_aj, zq_ak, ↓zq_al, ↓zq_am, e_op, e_b1, e_b2, r_isShelf, r_isIn, q0, q1, q2', q3]
        · have s1 : ∀ M, e_st 100 [195, d, 2] M = some (e_up M 195 d.toNat 2) := fun M => r_st (n := 8) (by decide) (by decide +kernel) (by decide +kernel) (by omega) (by omega)
          have s2 : ∀ M, e_st 100 [196, d, k] M = some (e_up M 196 d.toNat k) := fun M => r_st (n := 8) (by decide) (by decide +kernel) (by decide +kernel) (by omega) (by omega)
          have s3 : ∀ M, e_st 100 [197, d, n] M = some (e_up M 197 d.toNat n) := fun M => r_st (n := 8) (by decide) (by decide +kernel) (by decide +kernel) (by omega) (by omega)
          have a1 := r_up (M := M) (a := 195) (k := d.toNat) (v := 2) (by decide) (by decide +kernel) (by decide +kernel) (by decide) hM
          have a2 := r_up (a := 196) (k := d.toNat) (v := k) (by decide) (by decide +kernel) (by decide +kernel) ⟨by omega, by omega⟩ a1
          have a3 := r_up (a := 197) (k := d.toNat) (v := n) (by decide) (by decide +kernel) (by decide +kernel) ⟨by omega, by omega⟩ a2
          obtain ⟨M', k1, k2, k3⟩ := r_row_loop (k := k) (n := n) q0 120 0 _ a3 (by decide) (by decide) (by decide)
          refine ⟨M', ?_, k2, a_fr_tr (fun b j hw => ?_) (a_sub_fr (by decide +kernel) k3), fun j => ?_⟩
          · simp [zq_a, zq_b, zq_c, zq_d, zq_e, zq_f, zq_g, zq_h, zq_i, zq_j, zq_k, zq_l, zq_m, zq_n, zq_o, zq_p, zq_q, zq_r, zq_s, zq_t, zq_u, zq_v, zq_w, zq_x, zq_y, zq_z, zq_A, zq_B, zq_C, zq_D, zq_E, zq_F, zq_G, zq_H, zq_I, zq_J, zq_K, zq_L, ↓zq_M, ↓zq_N, ↓zq_O, ↓zq_P, ↓zq_Q, ↓zq_R, zq_S, zq_T, zq_U, zq_V, zq_W, zq_X, zq_Y, zq_Z, zq_0, zq_1, zq_2, zq_3, zq_4, zq_5, ↓zq_6, ↓zq_7, ↓zq_8, ↓zq_9, ↓zq_aa, zq_ab, zq_ac, zq_ad, zq_ae, zq_af, zq_ag, ↓zq_ah, ↓zq_ai, ↓zq_aj, zq_ak, ↓zq_al, ↓zq_am, e_op, e_b1, e_b2, r_isShelf, r_isIn, g2, g3, g4, s1, s2, s3, q0, q1, q2', q3, k1]
          · have hb : ∀ w ∈ r_w259, ¬ (w.1 = b ∧ w.2.1 ≤ j ∧ j ≤ w.2.2) := hw
            have hj : d.toNat ≤ 7 := by omega
            rw [c_up_n (fun hc => hb (197, 0, 7) (by decide) ⟨hc.1.symm, Nat.zero_le _, by rw [hc.2]; exact hj⟩), c_up_n (fun hc => hb (196, 0, 7) (by decide) ⟨hc.1.symm, Nat.zero_le _, by rw [hc.2]; exact hj⟩), c_up_n (fun hc => hb (195, 0, 7) (by decide) ⟨hc.1.symm, Nat.zero_le _, by rw [hc.2]; exact hj⟩)]
          · have h7 := k3 197 j (by intro w hw hc; cases List.mem_singleton.mp hw; exact absurd hc.1 (by decide))
            rw [h7]
            by_cases hj : j = d.toNat
            · rw [hj, c_up_s]; exact Or.inr ⟨by omega, by omega⟩
            · rw [c_up_n (fun hc => hj hc.2), c_up_n (fun hc => absurd hc.1 (by decide)), c_up_n (fun hc => absurd hc.1 (by decide))]; exact Or.inl rfl
    · refine ⟨M, ?_, hM, a_fr_rf, fun j => Or.inl rfl⟩
      have q1' : ¬ (0 ≤ d ∧ d ≤ 7 ∧ 0 ≤ k ∧ k ≤ 2 ∧ n ≤ 120) := by omega
      simp only [if_neg q1']
      simp [zq_a, zq_b, zq_c, zq_d, zq_e, zq_f, zq_g, zq_h, zq_i, zq_j, zq_k, zq_l, zq_m, zq_n, zq_o, zq_p, zq_q, zq_r, zq_s, zq_t, zq_u, zq_v, zq_w, zq_x, zq_y, zq_z, zq_A, zq_B, zq_C, zq_D, zq_E, zq_F, zq_G, zq_H, zq_I, zq_J, zq_K, zq_L, ↓zq_M, ↓zq_N, ↓zq_O, ↓zq_P, ↓zq_Q, ↓zq_R, zq_S, zq_T, zq_U, zq_V, zq_W, zq_X, zq_Y, zq_Z, zq_0, zq_1, zq_2, zq_3, zq_4, zq_5, ↓zq_6, ↓zq_7, ↓zq_8, ↓zq_9, ↓zq_aa, zq_ab, zq_ac, zq_ad, zq_ae, zq_af, zq_ag, ↓zq_ah, ↓zq_ai, ↓zq_aj, zq_ak, ↓zq_al, ↓zq_am, e_op, e_b1, e_b2, r_isShelf, r_isIn, q0, q1]
  · refine ⟨M, ?_, hM, a_fr_rf, fun j => Or.inl rfl⟩
    have q1' : ¬ (0 ≤ d ∧ d ≤ 7 ∧ 0 ≤ k ∧ k ≤ 2 ∧ n ≤ 120) := by omega
    simp only [if_neg q1']
    simp [zq_a, zq_b, zq_c, zq_d, zq_e, zq_f, zq_g, zq_h, zq_i, zq_j, zq_k, zq_l, zq_m, zq_n, zq_o, zq_p, zq_q, zq_r, zq_s, zq_t, zq_u, zq_v, zq_w, zq_x, zq_y, zq_z, zq_A, zq_B, zq_C, zq_D, zq_E, zq_F, zq_G, zq_H, zq_I, zq_J, zq_K, zq_L, ↓zq_M, ↓zq_N, ↓zq_O, ↓zq_P, ↓zq_Q, ↓zq_R, zq_S, zq_T, zq_U, zq_V, zq_W, zq_X, zq_Y, zq_Z, zq_0, zq_1, zq_2, zq_3, zq_4, zq_5, ↓zq_6, ↓zq_7, ↓zq_8, ↓zq_9, ↓zq_aa, zq_ab, zq_ac, zq_ad, zq_ae, zq_af, zq_ag, ↓zq_ah, ↓zq_ai, ↓zq_aj, zq_ak, ↓zq_al, ↓zq_am, e_op, e_b1, e_b2, r_isShelf, r_isIn, q0]
end
section
/-! the class's row answers as the reference's -/
theorem c_shelfAt_eq {d : Int} {M : EM} (hM : a_M M) (hd : -2147483648 ≤ d ∧ d ≤ 2147483647) : ∃ s, E_C 154 [8, d] M = some (s, M) ∧ (s = -1 ∨ s ∈ a_SH) ∧ (s = -1 ↔ ¬ (0 ≤ d ∧ d ≤ 7)) := by
  obtain ⟨s, s1, s2⟩ := c_shelfAt hM hd
  refine ⟨s, s1, s2, ?_⟩
  have h1 : E_C 154 [8, d] M = e_tv E_C (E_V 154) e_t154_0 [8, d] M := by
    unfold E_C
    rw [if_pos (show e_rok 154 [8, d] = true from decide_eq_true c_this), E_V_eq]
    rfl
  have g3 : ∀ M, e_gf 707 [8] M = some 145 := fun M => (c_gr c_this (by decide +kernel)).trans (congrArg some (by decide +kernel))
  have hz : e_sz M 145 = 8 := rfl
  have hlen : e_op 63 [145] M = some 8 := by
    simp only [e_op, if_pos]
    rw [if_pos (by decide +kernel)]
    rw [show (145 : Int).toNat = 145 from rfl, hz]
    rfl
  rw [h1] at s1
  unfold e_t154_0 at s1
  by_cases q0 : 0 ≤ d ∧ d ≤ 7
  · obtain ⟨q1, q2⟩ := q0
    have hld : e_op 62 [145, d] M = some (e_gr 145 d.toNat) := by
      simp only [e_op]
      rw [if_neg (by decide), if_neg (by decide)]
      simp only [if_pos]
      rw [if_pos ⟨by decide, by decide +kernel, by decide +kernel, q1, by rw [show (145 : Int).toNat = 145 from rfl, hz]; omega⟩]
      rfl
    have hlt : d < 8 := by omega
    have q1' : ¬ (d < 0) := by omega
    simp [zq_a, zq_b, zq_c, zq_d, zq_e, zq_f, zq_g, zq_h, zq_i, zq_j, zq_k, zq_l, zq_m, zq_n, zq_o, zq_p, zq_q, zq_r, zq_s, zq_t, zq_u, zq_v, zq_w, zq_x, zq_y, zq_z, zq_A, zq_B, zq_C, zq_D, zq_E, zq_F, zq_G, zq_H, zq_I, zq_J, zq_K, zq_L, ↓zq_M, ↓zq_N, ↓zq_O, ↓zq_P, ↓zq_Q, ↓zq_R, zq_S, zq_T, zq_U, zq_V, zq_W, zq_X, zq_Y, zq_Z, zq_0, zq_1, zq_2, zq_3, zq_4, zq_5, ↓zq_6, ↓zq_7, ↓zq_8, ↓zq_9, ↓zq_aa, zq_ab, zq_ac, zq_ad, zq_ae, zq_af, zq_ag, ↓zq_ah, ↓zq_ai, ↓zq_aj, zq_ak, ↓zq_al, ↓zq_am, e_b1, e_b2, g3, hlen, hld, x_o1, x_o2, q1, q1', hlt] at s1
    have h2 : ∀ k : Fin 8, e_gr 145 k.val ≠ -1 := by decide +kernel
    have h3 := h2 ⟨d.toNat, by omega⟩
    exact ⟨fun h => absurd (s1.trans h) h3, fun h => absurd ⟨q1, q2⟩ h⟩
  · refine ⟨fun _ => q0, fun _ => ?_⟩
    by_cases q1 : 0 ≤ d
    · have hlt : ¬ (d < 8) := by omega
      have q1' : ¬ (d < 0) := by omega
      simp [zq_a, zq_b, zq_c, zq_d, zq_e, zq_f, zq_g, zq_h, zq_i, zq_j, zq_k, zq_l, zq_m, zq_n, zq_o, zq_p, zq_q, zq_r, zq_s, zq_t, zq_u, zq_v, zq_w, zq_x, zq_y, zq_z, zq_A, zq_B, zq_C, zq_D, zq_E, zq_F, zq_G, zq_H, zq_I, zq_J, zq_K, zq_L, ↓zq_M, ↓zq_N, ↓zq_O, ↓zq_P, ↓zq_Q, ↓zq_R, zq_S, zq_T, zq_U, zq_V, zq_W, zq_X, zq_Y, zq_Z, zq_0, zq_1, zq_2, zq_3, zq_4, zq_5, ↓zq_6, ↓zq_7, ↓zq_8, ↓zq_9, ↓zq_aa, zq_ab, zq_ac, zq_ad, zq_ae, zq_af, zq_ag, ↓zq_ah, ↓zq_ai, ↓zq_aj, zq_ak, ↓zq_al, ↓zq_am, e_b1, e_b2, g3, hlen, x_o1, x_o2, q1, q1', hlt] at s1
      exact s1.symm
    · have q1' : d < 0 := by omega
      simp [zq_a, zq_b, zq_c, zq_d, zq_e, zq_f, zq_g, zq_h, zq_i, zq_j, zq_k, zq_l, zq_m, zq_n, zq_o, zq_p, zq_q, zq_r, zq_s, zq_t, zq_u, zq_v, zq_w, zq_x, zq_y, zq_z, zq_A, zq_B, zq_C, zq_D, zq_E, zq_F, zq_G, zq_H, zq_I, zq_J, zq_K, zq_L, ↓zq_M, ↓zq_N, ↓zq_O, ↓zq_P, ↓zq_Q, ↓zq_R, zq_S, zq_T, zq_U, zq_V, zq_W, zq_X, zq_Y, zq_Z, zq_0, zq_1, zq_2, zq_3, zq_4, zq_5, ↓zq_6, ↓zq_7, ↓zq_8, ↓zq_9, ↓zq_aa, zq_ab, zq_ac, zq_ad, zq_ae, zq_af, zq_ag, ↓zq_ah, ↓zq_ai, ↓zq_aj, zq_ak, ↓zq_al, ↓zq_am, e_b1, e_b2, g3, hlen, x_o1, x_o2, q1, q1'] at s1
      exact s1.symm
theorem c_row {d k n : Int} {M : EM} (hM : a_M M) (hd : -2147483648 ≤ d ∧ d ≤ 2147483647) (hk : -2147483648 ≤ k ∧ k ≤ 2147483647) (hn : -2147483648 ≤ n ∧ n ≤ 2147483647) : ∃ M', E_C 140 [8, d, k, n] M = some (if 0 ≤ d ∧ d ≤ 7 ∧ 0 ≤ k ∧ k ≤ 2 ∧ n ≤ 120 then (if n < 0 then -14 else 0) else -1, M') ∧ a_M M' ∧ a_fr a_w140 M M' := by
  obtain ⟨r, M', t1, -, t3, t4⟩ := a_entry a_c140 (as := [8, d, k, n]) ⟨List.mem_cons_self, a_gi hd.1 hd.2, a_gi hk.1 hk.2, a_gi hn.1 hn.2, trivial⟩ hM
  refine ⟨M', ?_, t3, t4⟩
  rw [t1]
  suffices h : r = (if 0 ≤ d ∧ d ≤ 7 ∧ 0 ≤ k ∧ k ≤ 2 ∧ n ≤ 120 then (if n < 0 then -14 else 0) else -1) by rw [h]
  have h1 : E_C 140 [8, d, k, n] M = e_tv E_C (E_V 140) e_t140_0 [8, d, k, n, 0] M := by
    unfold E_C
    rw [if_pos (show e_rok 140 [8, d, k, n] = true from decide_eq_true c_this), E_V_eq]
    rfl
  rw [h1] at t1
  unfold e_t140_0 at t1
  obtain ⟨s, s1, s2, s3⟩ := c_shelfAt_eq hM hd
  by_cases q0 : s = -1
  · have hc : ¬ (0 ≤ d ∧ d ≤ 7 ∧ 0 ≤ k ∧ k ≤ 2 ∧ n ≤ 120) := fun h => s3.mp q0 ⟨h.1, h.2.1⟩
    rw [if_neg hc]
    simp [e_tv, e_ev, e_sv, e_op, e_b1, e_b2, s1, q0] at t1
    exact t1.1.symm
  · have hdd : 0 ≤ d ∧ d ≤ 7 := Decidable.not_not.mp (fun h => q0 (s3.mpr h))
    by_cases q1 : 0 ≤ k
    · have q1' : ¬ (k < 0) := by omega
      by_cases q2 : k ≤ 2
      · have q2' : ¬ (2 < k) := by omega
        by_cases q3 : 120 < n
        · rw [if_neg (by omega)]
          simp [e_tv, e_ev, e_sv, e_op, e_b1, e_b2, s1, q0, q1, q1', q2, q2', q3] at t1
          exact t1.1.symm
        · have q3' : n ≤ 120 := by omega
          rw [if_pos ⟨hdd.1, hdd.2, q1, q2, q3'⟩]
          by_cases q4 : n < 0
          · rw [if_pos q4]
            have q4' : ¬ (0 ≤ n) := by omega
            simp [e_tv, e_ev, e_sv, e_op, e_b1, e_b2, s1, q0, q1, q1', q2, q2', q3, q3', q4, q4'] at t1
            exact t1.1.symm
          · rw [if_neg q4]
            have q4' : 0 ≤ n := by omega
            cases hq : E_C 87 [s, k, n] M with
            | none => simp [e_tv, e_ev, e_sv, e_op, e_b1, e_b2, s1, q0, q1, q1', q2, q2', q3, q3', q4, q4', hq] at t1
            | some z =>
              simp [e_tv, e_ev, e_sv, e_op, e_b1, e_b2, s1, q0, q1, q1', q2, q2', q3, q3', q4, q4', hq] at t1
              exact t1.1.symm
      · have q2' : 2 < k := by omega
        rw [if_neg (by omega)]
        simp [e_tv, e_ev, e_sv, e_op, e_b1, e_b2, s1, q0, q1, q1', q2, q2'] at t1
        exact t1.1.symm
    · have q1' : k < 0 := by omega
      rw [if_neg (by omega)]
      simp [e_tv, e_ev, e_sv, e_op, e_b1, e_b2, s1, q0, q1, q1'] at t1
      exact t1.1.symm
end
section
/-! small methods of the reference: each comes to an end -/
/-- what is known of the reference's rows -/
def r_I (M : EM) : Prop := ∀ j, j < 8 → 0 ≤ M 197 j ∧ M 197 j ≤ 120
theorem r_isD (d : Int) (M : EM) (h : 0 ≤ d ∧ d ≤ 7) : e_op 60 [195, d] M = some (M 195 d.toNat) ∧ e_op 60 [196, d] M = some (M 196 d.toNat) ∧ e_op 60 [197, d] M = some (M 197 d.toNat) ∧ e_op 60 [199, d] M = some (M 199 d.toNat) ∧ e_op 60 [200, d] M = some (M 200 d.toNat) ∧ e_op 60 [201, d] M = some (M 201 d.toNat) := by
  refine ⟨?_, ?_, ?_, ?_, ?_, ?_⟩ <;> exact r_ld (n := 8) (by decide) (by decide +kernel) (by decide +kernel) (by omega) (by omega)
theorem r_wrongRow (d w : Int) (M : EM) : ∃ r, E_C 189 [192, d, w] M = some (r, M) ∧ (-12 ≤ r ∧ r ≤ 0) ∧ (r = 0 → 0 ≤ d ∧ d ≤ 7) := by
  have h1 : E_C 189 [192, d, w] M = e_tv E_C (E_V 189) e_t189_0 [192, d, w] M := by
    unfold E_C
    rw [if_pos (show e_rok 189 [192, d, w] = true from decide_eq_true r_ref), E_V_eq]
    rfl
  have g2 : ∀ M, e_gf 770 [192] M = some 195 := fun M => r_g 770 195 M (by decide +kernel)
  have g3 : ∀ M, e_gf 771 [192] M = some 196 := fun M => r_g 771 196 M (by decide +kernel)
  rw [h1]
  unfold e_t189_0
  by_cases q0 : 0 ≤ d ∧ d ≤ 7
  · obtain ⟨l1, l2, -, -, -, -⟩ := r_isD d M q0
    by_cases q1 : M 195 d.toNat = 0
    · exact ⟨-11, by simp [zq_a, zq_b, zq_c, zq_d, zq_e, zq_f, zq_g, zq_h, zq_i, zq_j, zq_k, zq_l, zq_m, zq_n, zq_o, zq_p, zq_q, zq_r, zq_s, zq_t, zq_u, zq_v, zq_w, zq_x, zq_y, zq_z, zq_A, zq_B, zq_C, zq_D, zq_E, zq_F, zq_G, zq_H, zq_I, zq_J, zq_K, zq_L, ↓zq_M, ↓zq_N, ↓zq_O, ↓zq_P, ↓zq_Q, ↓zq_R, zq_S, zq_T, zq_U, zq_V, zq_W, zq_X, zq_Y, zq_Z, zq_0, zq_1, zq_2, zq_3, zq_4, zq_5, ↓zq_6, ↓zq_7, ↓zq_8, ↓zq_9, ↓zq_aa, zq_ab, zq_ac, zq_ad, zq_ae, zq_af, zq_ag, ↓zq_ah, ↓zq_ai, ↓zq_aj, zq_ak, ↓zq_al, ↓zq_am, e_b1, e_b2, x_o1, x_o2, r_isShelf, g2, g3, l1, l2, q0, q1], by decide, fun h => q0⟩
    · by_cases q2 : M 195 d.toNat = 2
      · by_cases q3 : 0 ≤ w
        · have q3' : ¬ (w < 0) := by omega
          by_cases q4 : M 196 d.toNat = w
          · exact ⟨0, by simp [zq_a, zq_b, zq_c, zq_d, zq_e, zq_f, zq_g, zq_h, zq_i, zq_j, zq_k, zq_l, zq_m, zq_n, zq_o, zq_p, zq_q, zq_r, zq_s, zq_t, zq_u, zq_v, zq_w, zq_x, zq_y, zq_z, zq_A, zq_B, zq_C, zq_D, zq_E, zq_F, zq_G, zq_H, zq_I, zq_J, zq_K, zq_L, ↓zq_M, ↓zq_N, ↓zq_O, ↓zq_P, ↓zq_Q, ↓zq_R, zq_S, zq_T, zq_U, zq_V, zq_W, zq_X, zq_Y, zq_Z, zq_0, zq_1, zq_2, zq_3, zq_4, zq_5, ↓zq_6, ↓zq_7, ↓zq_8, ↓zq_9, ↓zq_aa, zq_ab, zq_ac, zq_ad, zq_ae, zq_af, zq_ag, ↓zq_ah, ↓zq_ai, ↓zq_aj, zq_ak, ↓zq_al, ↓zq_am, e_b1, e_b2, x_o1, x_o2, r_isShelf, g2, g3, l1, l2, q0, q2, q3, q3', q4], by decide, fun h => q0⟩
          · exact ⟨-12, by simp [zq_a, zq_b, zq_c, zq_d, zq_e, zq_f, zq_g, zq_h, zq_i, zq_j, zq_k, zq_l, zq_m, zq_n, zq_o, zq_p, zq_q, zq_r, zq_s, zq_t, zq_u, zq_v, zq_w, zq_x, zq_y, zq_z, zq_A, zq_B, zq_C, zq_D, zq_E, zq_F, zq_G, zq_H, zq_I, zq_J, zq_K, zq_L, ↓zq_M, ↓zq_N, ↓zq_O, ↓zq_P, ↓zq_Q, ↓zq_R, zq_S, zq_T, zq_U, zq_V, zq_W, zq_X, zq_Y, zq_Z, zq_0, zq_1, zq_2, zq_3, zq_4, zq_5, ↓zq_6, ↓zq_7, ↓zq_8, ↓zq_9, ↓zq_aa, zq_ab, zq_ac, zq_ad, zq_ae, zq_af, zq_ag, ↓zq_ah, ↓zq_ai, ↓zq_aj, zq_ak, ↓zq_al, ↓zq_am, e_b1, e_b2, x_o1, x_o2, r_isShelf, g2, g3, l1, l2, q0, q2, q3, q3', q4], by decide, fun h => q0⟩
        · have q3' : w < 0 := by omega
          exact ⟨0, by simp [zq_a, zq_b, zq_c, zq_d, zq_e, zq_f, zq_g, zq_h, zq_i, zq_j, zq_k, zq_l, zq_m, zq_n, zq_o, zq_p, zq_q, zq_r, zq_s, zq_t, zq_u, zq_v, zq_w, zq_x, zq_y, zq_z, zq_A, zq_B, zq_C, zq_D, zq_E, zq_F, zq_G, zq_H, zq_I, zq_J, zq_K, zq_L, ↓zq_M, ↓zq_N, ↓zq_O, ↓zq_P, ↓zq_Q, ↓zq_R, zq_S, zq_T, zq_U, zq_V, zq_W, zq_X, zq_Y, zq_Z, zq_0, zq_1, zq_2, zq_3, zq_4, zq_5, ↓zq_6, ↓zq_7, ↓zq_8, ↓zq_9, ↓zq_aa, zq_ab, zq_ac, zq_ad, zq_ae, zq_af, zq_ag, ↓zq_ah, ↓zq_ai, ↓zq_aj, zq_ak, ↓zq_al, ↓zq_am, e_b1, e_b2, x_o1, x_o2, r_isShelf, g2, g3, l1, l2, q0, q2, q3, q3'], by decide, fun h => q0⟩
      · exact ⟨-12, by simp [zq_a, zq_b, zq_c, zq_d, zq_e, zq_f, zq_g, zq_h, zq_i, zq_j, zq_k, zq_l, zq_m, zq_n, zq_o, zq_p, zq_q, zq_r, zq_s, zq_t, zq_u, zq_v, zq_w, zq_x, zq_y, zq_z, zq_A, zq_B, zq_C, zq_D, zq_E, zq_F, zq_G, zq_H, zq_I, zq_J, zq_K, zq_L, ↓zq_M, ↓zq_N, ↓zq_O, ↓zq_P, ↓zq_Q, ↓zq_R, zq_S, zq_T, zq_U, zq_V, zq_W, zq_X, zq_Y, zq_Z, zq_0, zq_1, zq_2, zq_3, zq_4, zq_5, ↓zq_6, ↓zq_7, ↓zq_8, ↓zq_9, ↓zq_aa, zq_ab, zq_ac, zq_ad, zq_ae, zq_af, zq_ag, ↓zq_ah, ↓zq_ai, ↓zq_aj, zq_ak, ↓zq_al, ↓zq_am, e_b1, e_b2, x_o1, x_o2, r_isShelf, g2, g3, l1, l2, q0, q1, q2], by decide, fun h => q0⟩
  · exact ⟨-1, by simp [zq_a, zq_b, zq_c, zq_d, zq_e, zq_f, zq_g, zq_h, zq_i, zq_j, zq_k, zq_l, zq_m, zq_n, zq_o, zq_p, zq_q, zq_r, zq_s, zq_t, zq_u, zq_v, zq_w, zq_x, zq_y, zq_z, zq_A, zq_B, zq_C, zq_D, zq_E, zq_F, zq_G, zq_H, zq_I, zq_J, zq_K, zq_L, ↓zq_M, ↓zq_N, ↓zq_O, ↓zq_P, ↓zq_Q, ↓zq_R, zq_S, zq_T, zq_U, zq_V, zq_W, zq_X, zq_Y, zq_Z, zq_0, zq_1, zq_2, zq_3, zq_4, zq_5, ↓zq_6, ↓zq_7, ↓zq_8, ↓zq_9, ↓zq_aa, zq_ab, zq_ac, zq_ad, zq_ae, zq_af, zq_ag, ↓zq_ah, ↓zq_ai, ↓zq_aj, zq_ak, ↓zq_al, ↓zq_am, e_b1, e_b2, x_o1, x_o2, r_isShelf, g2, g3, q0], by decide, fun h => absurd h (by decide)⟩
theorem r_wrongKept (d : Int) (M : EM) : ∃ r, E_C 263 [192, d] M = some (r, M) ∧ (-12 ≤ r ∧ r ≤ 0) ∧ (r = 0 → 0 ≤ d ∧ d ≤ 7) := by
  have h1 : E_C 263 [192, d] M = e_tv E_C (E_V 263) e_t263_0 [192, d] M := by
    unfold E_C
    rw [if_pos (show e_rok 263 [192, d] = true from decide_eq_true r_ref), E_V_eq]
    rfl
  have g2 : ∀ M, e_gf 770 [192] M = some 195 := fun M => r_g 770 195 M (by decide +kernel)
  rw [h1]
  unfold e_t263_0
  by_cases q0 : 0 ≤ d ∧ d ≤ 7
  · obtain ⟨l1, -, -, -, -, -⟩ := r_isD d M q0
    by_cases q1 : M 195 d.toNat = 0
    · exact ⟨-11, by simp [zq_a, zq_b, zq_c, zq_d, zq_e, zq_f, zq_g, zq_h, zq_i, zq_j, zq_k, zq_l, zq_m, zq_n, zq_o, zq_p, zq_q, zq_r, zq_s, zq_t, zq_u, zq_v, zq_w, zq_x, zq_y, zq_z, zq_A, zq_B, zq_C, zq_D, zq_E, zq_F, zq_G, zq_H, zq_I, zq_J, zq_K, zq_L, ↓zq_M, ↓zq_N, ↓zq_O, ↓zq_P, ↓zq_Q, ↓zq_R, zq_S, zq_T, zq_U, zq_V, zq_W, zq_X, zq_Y, zq_Z, zq_0, zq_1, zq_2, zq_3, zq_4, zq_5, ↓zq_6, ↓zq_7, ↓zq_8, ↓zq_9, ↓zq_aa, zq_ab, zq_ac, zq_ad, zq_ae, zq_af, zq_ag, ↓zq_ah, ↓zq_ai, ↓zq_aj, zq_ak, ↓zq_al, ↓zq_am, e_b1, e_b2, x_o1, x_o2, r_isShelf, g2, l1, q0, q1], by decide, fun h => q0⟩
    · by_cases q2 : M 195 d.toNat = 1
      · exact ⟨0, by simp [zq_a, zq_b, zq_c, zq_d, zq_e, zq_f, zq_g, zq_h, zq_i, zq_j, zq_k, zq_l, zq_m, zq_n, zq_o, zq_p, zq_q, zq_r, zq_s, zq_t, zq_u, zq_v, zq_w, zq_x, zq_y, zq_z, zq_A, zq_B, zq_C, zq_D, zq_E, zq_F, zq_G, zq_H, zq_I, zq_J, zq_K, zq_L, ↓zq_M, ↓zq_N, ↓zq_O, ↓zq_P, ↓zq_Q, ↓zq_R, zq_S, zq_T, zq_U, zq_V, zq_W, zq_X, zq_Y, zq_Z, zq_0, zq_1, zq_2, zq_3, zq_4, zq_5, ↓zq_6, ↓zq_7, ↓zq_8, ↓zq_9, ↓zq_aa, zq_ab, zq_ac, zq_ad, zq_ae, zq_af, zq_ag, ↓zq_ah, ↓zq_ai, ↓zq_aj, zq_ak, ↓zq_al, ↓zq_am, e_b1, e_b2, x_o1, x_o2, r_isShelf, g2, l1, q0, q2], by decide, fun h => q0⟩
      · exact ⟨-12, by simp [zq_a, zq_b, zq_c, zq_d, zq_e, zq_f, zq_g, zq_h, zq_i, zq_j, zq_k, zq_l, zq_m, zq_n, zq_o, zq_p, zq_q, zq_r, zq_s, zq_t, zq_u, zq_v, zq_w, zq_x, zq_y, zq_z, zq_A, zq_B, zq_C, zq_D, zq_E, zq_F, zq_G, zq_H, zq_I, zq_J, zq_K, zq_L, ↓zq_M, ↓zq_N, ↓zq_O, ↓zq_P, ↓zq_Q, ↓zq_R, zq_S, zq_T, zq_U, zq_V, zq_W, zq_X, zq_Y, zq_Z, zq_0, zq_1, zq_2, zq_3, zq_4, zq_5, ↓zq_6, ↓zq_7, ↓zq_8, ↓zq_9, ↓zq_aa, zq_ab, zq_ac, zq_ad, zq_ae, zq_af, zq_ag, ↓zq_ah, ↓zq_ai, ↓zq_aj, zq_ak, ↓zq_al, ↓zq_am, e_b1, e_b2, x_o1, x_o2, r_isShelf, g2, l1, q0, q1, q2], by decide, fun h => q0⟩
  · exact ⟨-1, by simp [zq_a, zq_b, zq_c, zq_d, zq_e, zq_f, zq_g, zq_h, zq_i, zq_j, zq_k, zq_l, zq_m, zq_n, zq_o, zq_p, zq_q, zq_r, zq_s, zq_t, zq_u, zq_v, zq_w, zq_x, zq_y, zq_z, zq_A, zq_B, zq_C, zq_D, zq_E, zq_F, zq_G, zq_H, zq_I, zq_J, zq_K, zq_L, ↓zq_M, ↓zq_N, ↓zq_O, ↓zq_P, ↓zq_Q, ↓zq_R, zq_S, zq_T, zq_U, zq_V, zq_W, zq_X, zq_Y, zq_Z, zq_0, zq_1, zq_2, zq_3, zq_4, zq_5, ↓zq_6, ↓zq_7, ↓zq_8, ↓zq_9, ↓zq_aa, zq_ab, zq_ac, zq_ad, zq_ae, zq_af, zq_ag, ↓zq_ah, ↓zq_ai, ↓zq_aj, zq_ak, ↓zq_al, ↓zq_am, e_b1, e_b2, x_o1, x_o2, r_isShelf, g2, q0], by decide, fun h => absurd h (by decide)⟩
theorem r_weight (d : Int) (M : EM) : ∃ r, E_C 264 [192, d] M = some (r, M) := by
  have h1 : E_C 264 [192, d] M = e_tv E_C (E_V 264) e_t264_0 [192, d, 0] M := by
    unfold E_C
    rw [if_pos (show e_rok 264 [192, d] = true from decide_eq_true r_ref), E_V_eq]
    rfl
  have g7 : ∀ M, e_gf 775 [192] M = some 200 := fun M => r_g 775 200 M (by decide +kernel)
  rw [h1]
  unfold e_t264_0
  obtain ⟨r, r1, -, r3⟩ := r_wrongKept d M
  by_cases q0 : r = 0
  · obtain ⟨-, -, -, -, l, -⟩ := r_isD d M (r3 q0)
    exact ⟨_, by simp [zq_a, zq_b, zq_c, zq_d, zq_e, zq_f, zq_g, zq_h, zq_i, zq_j, zq_k, zq_l, zq_m, zq_n, zq_o, zq_p, zq_q, zq_r, zq_s, zq_t, zq_u, zq_v, zq_w, zq_x, zq_y, zq_z, zq_A, zq_B, zq_C, zq_D, zq_E, zq_F, zq_G, zq_H, zq_I, zq_J, zq_K, zq_L, ↓zq_M, ↓zq_N, ↓zq_O, ↓zq_P, ↓zq_Q, ↓zq_R, zq_S, zq_T, zq_U, zq_V, zq_W, zq_X, zq_Y, zq_Z, zq_0, zq_1, zq_2, zq_3, zq_4, zq_5, ↓zq_6, ↓zq_7, ↓zq_8, ↓zq_9, ↓zq_aa, zq_ab, zq_ac, zq_ad, zq_ae, zq_af, zq_ag, ↓zq_ah, ↓zq_ai, ↓zq_aj, zq_ak, ↓zq_al, ↓zq_am, e_b1, e_b2, x_o1, x_o2, r1, q0, g7, l]; rfl⟩
  · exact ⟨r, by simp [zq_a, zq_b, zq_c, zq_d, zq_e, zq_f, zq_g, zq_h, zq_i, zq_j, zq_k, zq_l, zq_m, zq_n, zq_o, zq_p, zq_q, zq_r, zq_s, zq_t, zq_u, zq_v, zq_w, zq_x, zq_y, zq_z, zq_A, zq_B, zq_C, zq_D, zq_E, zq_F, zq_G, zq_H, zq_I, zq_J, zq_K, zq_L, ↓zq_M, ↓zq_N, ↓zq_O, ↓zq_P, ↓zq_Q, ↓zq_R, zq_S, zq_T, zq_U, zq_V, zq_W, zq_X, zq_Y, zq_Z, zq_0, zq_1, zq_2, zq_3, zq_4, zq_5, ↓zq_6, ↓zq_7, ↓zq_8, ↓zq_9, ↓zq_aa, zq_ab, zq_ac, zq_ad, zq_ae, zq_af, zq_ag, ↓zq_ah, ↓zq_ai, ↓zq_aj, zq_ak, ↓zq_al, ↓zq_am, e_b1, e_b2, x_o1, x_o2, r1, q0]⟩
theorem r_toss (d : Int) (M : EM) : ∃ r, E_C 265 [192, d] M = some (r, M) := by
  have h1 : E_C 265 [192, d] M = e_tv E_C (E_V 265) e_t265_0 [192, d, 0] M := by
    unfold E_C
    rw [if_pos (show e_rok 265 [192, d] = true from decide_eq_true r_ref), E_V_eq]
    rfl
  have g6 : ∀ M, e_gf 774 [192] M = some 199 := fun M => r_g 774 199 M (by decide +kernel)
  have g8 : ∀ M, e_gf 776 [192] M = some 201 := fun M => r_g 776 201 M (by decide +kernel)
  rw [h1]
  unfold e_t265_0
  obtain ⟨r, r1, -, r3⟩ := r_wrongKept d M
  by_cases q0 : r = 0
  · obtain ⟨-, -, -, l1, -, l2⟩ := r_isD d M (r3 q0)
    by_cases q2 : M 201 d.toNat = 0
    · by_cases q1 : M 199 d.toNat = 3
      · exact ⟨_, by simp [zq_a, zq_b, zq_c, zq_d, zq_e, zq_f, zq_g, zq_h, zq_i, zq_j, zq_k, zq_l, zq_m, zq_n, zq_o, zq_p, zq_q, zq_r, zq_s, zq_t, zq_u, zq_v, zq_w, zq_x, zq_y, zq_z, zq_A, zq_B, zq_C, zq_D, zq_E, zq_F, zq_G, zq_H, zq_I, zq_J, zq_K, zq_L, ↓zq_M, ↓zq_N, ↓zq_O, ↓zq_P, ↓zq_Q, ↓zq_R, zq_S, zq_T, zq_U, zq_V, zq_W, zq_X, zq_Y, zq_Z, zq_0, zq_1, zq_2, zq_3, zq_4, zq_5, ↓zq_6, ↓zq_7, ↓zq_8, ↓zq_9, ↓zq_aa, zq_ab, zq_ac, zq_ad, zq_ae, zq_af, zq_ag, ↓zq_ah, ↓zq_ai, ↓zq_aj, zq_ak, ↓zq_al, ↓zq_am, e_b1, e_b2, x_o1, x_o2, r1, q0, g6, g8, l1, l2, q1, q2]; rfl⟩
      · by_cases q3 : M 199 d.toNat = 2
        · exact ⟨_, by simp [zq_a, zq_b, zq_c, zq_d, zq_e, zq_f, zq_g, zq_h, zq_i, zq_j, zq_k, zq_l, zq_m, zq_n, zq_o, zq_p, zq_q, zq_r, zq_s, zq_t, zq_u, zq_v, zq_w, zq_x, zq_y, zq_z, zq_A, zq_B, zq_C, zq_D, zq_E, zq_F, zq_G, zq_H, zq_I, zq_J, zq_K, zq_L, ↓zq_M, ↓zq_N, ↓zq_O, ↓zq_P, ↓zq_Q, ↓zq_R, zq_S, zq_T, zq_U, zq_V, zq_W, zq_X, zq_Y, zq_Z, zq_0, zq_1, zq_2, zq_3, zq_4, zq_5, ↓zq_6, ↓zq_7, ↓zq_8, ↓zq_9, ↓zq_aa, zq_ab, zq_ac, zq_ad, zq_ae, zq_af, zq_ag, ↓zq_ah, ↓zq_ai, ↓zq_aj, zq_ak, ↓zq_al, ↓zq_am, e_b1, e_b2, x_o1, x_o2, r1, q0, g6, g8, l1, l2, q3, q2]; rfl⟩
        · exact ⟨_, by simp [zq_a, zq_b, zq_c, zq_d, zq_e, zq_f, zq_g, zq_h, zq_i, zq_j, zq_k, zq_l, zq_m, zq_n, zq_o, zq_p, zq_q, zq_r, zq_s, zq_t, zq_u, zq_v, zq_w, zq_x, zq_y, zq_z, zq_A, zq_B, zq_C, zq_D, zq_E, zq_F, zq_G, zq_H, zq_I, zq_J, zq_K, zq_L, ↓zq_M, ↓zq_N, ↓zq_O, ↓zq_P, ↓zq_Q, ↓zq_R, zq_S, zq_T, zq_U, zq_V, zq_W, zq_X, zq_Y, zq_Z, zq_0, zq_1, zq_2, zq_3, zq_4, zq_5, ↓zq_6, ↓zq_7, ↓zq_8, ↓zq_9, ↓zq_aa, zq_ab, zq_ac, zq_ad, zq_ae, zq_af, zq_ag, ↓zq_ah, ↓zq_ai, ↓zq_aj, zq_ak, ↓zq_al, ↓zq_am, e_b1, e_b2, x_o1, x_o2, r1, q0, g6, g8, l1, l2, q1, q3, q2]; rfl⟩
    · by_cases q1 : M 199 d.toNat = 3
      · exact ⟨_, by simp [zq_a, zq_b, zq_c, zq_d, zq_e, zq_f, zq_g, zq_h, zq_i, zq_j, zq_k, zq_l, zq_m, zq_n, zq_o, zq_p, zq_q, zq_r, zq_s, zq_t, zq_u, zq_v, zq_w, zq_x, zq_y, zq_z, zq_A, zq_B, zq_C, zq_D, zq_E, zq_F, zq_G, zq_H, zq_I, zq_J, zq_K, zq_L, ↓zq_M, ↓zq_N, ↓zq_O, ↓zq_P, ↓zq_Q, ↓zq_R, zq_S, zq_T, zq_U, zq_V, zq_W, zq_X, zq_Y, zq_Z, zq_0, zq_1, zq_2, zq_3, zq_4, zq_5, ↓zq_6, ↓zq_7, ↓zq_8, ↓zq_9, ↓zq_aa, zq_ab, zq_ac, zq_ad, zq_ae, zq_af, zq_ag, ↓zq_ah, ↓zq_ai, ↓zq_aj, zq_ak, ↓zq_al, ↓zq_am, e_b1, e_b2, x_o1, x_o2, r1, q0, g6, g8, l1, l2, q1, q2]; rfl⟩
      · by_cases q3 : M 199 d.toNat = 2
        · exact ⟨_, by simp [zq_a, zq_b, zq_c, zq_d, zq_e, zq_f, zq_g, zq_h, zq_i, zq_j, zq_k, zq_l, zq_m, zq_n, zq_o, zq_p, zq_q, zq_r, zq_s, zq_t, zq_u, zq_v, zq_w, zq_x, zq_y, zq_z, zq_A, zq_B, zq_C, zq_D, zq_E, zq_F, zq_G, zq_H, zq_I, zq_J, zq_K, zq_L, ↓zq_M, ↓zq_N, ↓zq_O, ↓zq_P, ↓zq_Q, ↓zq_R, zq_S, zq_T, zq_U, zq_V, zq_W, zq_X, zq_Y, zq_Z, zq_0, zq_1, zq_2, zq_3, zq_4, zq_5, ↓zq_6, ↓zq_7, ↓zq_8, ↓zq_9, ↓zq_aa, zq_ab, zq_ac, zq_ad, zq_ae, zq_af, zq_ag, ↓zq_ah, ↓zq_ai, ↓zq_aj, zq_ak, ↓zq_al, ↓zq_am, e_b1, e_b2, x_o1, x_o2, r1, q0, g6, g8, l1, l2, q3, q2]; rfl⟩
        · exact ⟨_, by simp [zq_a, zq_b, zq_c, zq_d, zq_e, zq_f, zq_g, zq_h, zq_i, zq_j, zq_k, zq_l, zq_m, zq_n, zq_o, zq_p, zq_q, zq_r, zq_s, zq_t, zq_u, zq_v, zq_w, zq_x, zq_y, zq_z, zq_A, zq_B, zq_C, zq_D, zq_E, zq_F, zq_G, zq_H, zq_I, zq_J, zq_K, zq_L, ↓zq_M, ↓zq_N, ↓zq_O, ↓zq_P, ↓zq_Q, ↓zq_R, zq_S, zq_T, zq_U, zq_V, zq_W, zq_X, zq_Y, zq_Z, zq_0, zq_1, zq_2, zq_3, zq_4, zq_5, ↓zq_6, ↓zq_7, ↓zq_8, ↓zq_9, ↓zq_aa, zq_ab, zq_ac, zq_ad, zq_ae, zq_af, zq_ag, ↓zq_ah, ↓zq_ai, ↓zq_aj, zq_ak, ↓zq_al, ↓zq_am, e_b1, e_b2, x_o1, x_o2, r1, q0, g6, g8, l1, l2, q1, q3, q2]; rfl⟩
  · exact ⟨r, by simp [zq_a, zq_b, zq_c, zq_d, zq_e, zq_f, zq_g, zq_h, zq_i, zq_j, zq_k, zq_l, zq_m, zq_n, zq_o, zq_p, zq_q, zq_r, zq_s, zq_t, zq_u, zq_v, zq_w, zq_x, zq_y, zq_z, zq_A, zq_B, zq_C, zq_D, zq_E, zq_F, zq_G, zq_H, zq_I, zq_J, zq_K, zq_L, ↓zq_M, ↓zq_N, ↓zq_O, ↓zq_P, ↓zq_Q, ↓zq_R, zq_S, zq_T, zq_U, zq_V, zq_W, zq_X, zq_Y, zq_Z, zq_0, zq_1, zq_2, zq_3, zq_4, zq_5, ↓zq_6, ↓zq_7, ↓zq_8, ↓zq_9, ↓zq_aa, zq_ab, zq_ac, zq_ad, zq_ae, zq_af, zq_ag, ↓zq_ah, ↓zq_ai, ↓zq_aj, zq_ak, ↓zq_al, ↓zq_am, e_b1, e_b2, x_o1, x_o2, r1, q0]⟩
end
section
theorem r_put {d i v : Int} {M : EM} (hM : a_M M) (hI : r_I M) (hv : -2147483648 ≤ v ∧ v ≤ 2147483647) : ∃ r M', E_C 260 [192, d, i, v] M = some (r, M') ∧ a_M M' ∧ a_fr [(198, 0, 959)] M M' := by
  have h1 : E_C 260 [192, d, i, v] M = e_tv E_C (E_V 260) e_t260_0 [192, d, i, v, 0] M := by
    unfold E_C
    rw [if_pos (show e_rok 260 [192, d, i, v] = true from decide_eq_true r_ref), E_V_eq]
    rfl
  have g3 : ∀ M, e_gf 771 [192] M = some 196 := fun M => r_g 771 196 M (by decide +kernel)
  have g4 : ∀ M, e_gf 772 [192] M = some 197 := fun M => r_g 772 197 M (by decide +kernel)
  have g5 : ∀ M, e_gf 773 [192] M = some 198 := fun M => r_g 773 198 M (by decide +kernel)
  have b1 : ∀ a, e_b1 1 a = some a := fun _ => rfl
  have b22 : ∀ a, e_b1 22 a = some a := fun _ => rfl
  have b46 : ∀ a, e_b1 46 a = some (if a = 0 then 1 else 0) := fun _ => rfl
  have b47 : ∀ a, e_b1 47 a = some (if a ≠ 0 then 1 else 0) := fun _ => rfl
  obtain ⟨x1, b24, y1⟩ : ∃ x, e_b1 24 v = some x ∧ (-2147483648 ≤ x ∧ x ≤ 2147483647) := ⟨_, rfl, by omega, by omega⟩
  obtain ⟨x2, b25, y2⟩ : ∃ x, e_b1 25 v = some x ∧ (-2147483648 ≤ x ∧ x ≤ 2147483647) := ⟨_, rfl, by omega, by omega⟩
  rw [h1]
  unfold e_t260_0
  obtain ⟨r, r1, -, r3⟩ := r_wrongRow d (-1) M
  by_cases q0 : r = 0
  · have hd := r3 q0
    obtain ⟨-, l2, l3, -, -, -⟩ := r_isD d M hd
    have hz := hI d.toNat (by omega)
    have w0 : e_w (M 197 d.toNat - 1) = M 197 d.toNat - 1 := a_w_id (by omega) (by omega)
    by_cases q1 : 0 ≤ i ∧ i ≤ M 197 d.toNat - 1
    · have w1 : e_w (120 * d) = 120 * d := a_w_id (by omega) (by omega)
      have w2 : e_w (120 * d + i) = 120 * d + i := a_w_id (by omega) (by omega)
      have st : ∀ v M, e_st 100 [198, 120 * d + i, v] M = some (e_up M 198 (120 * d + i).toNat v) := fun v M => r_st (n := 960) (by decide) (by decide +kernel) (by decide +kernel) (by omega) (by omega)
      have hup : ∀ {x : Int}, (-2147483648 ≤ x ∧ x ≤ 2147483647) → a_M (e_up M 198 (120 * d + i).toNat x) ∧ a_fr [(198, 0, 959)] M (e_up M 198 (120 * d + i).toNat x) := by
        intro x hx
        refine ⟨r_up (by decide) (by decide +kernel) (by decide +kernel) hx hM, fun b j hw => c_up_n (fun hc => hw _ List.mem_cons_self ⟨hc.1.symm, Nat.zero_le _, ?_⟩)⟩
        have := hc.2
        show j ≤ 959
        omega
      by_cases q2 : M 196 d.toNat = 0
      · have hb := hup (x := x1) y1
        exact ⟨0, e_up M 198 (120 * d + i).toNat x1, by simp [zq_a, zq_b, zq_c, zq_d, zq_e, zq_f, zq_g, zq_h, zq_i, zq_j, zq_k, zq_l, zq_m, zq_n, zq_o, zq_p, zq_q, zq_r, zq_s, zq_t, zq_u, zq_v, zq_w, zq_x, zq_y, zq_z, zq_A, zq_B, zq_C, zq_D, zq_E, zq_F, zq_G, zq_H, zq_I, zq_J, zq_K, zq_L, ↓zq_M, ↓zq_N, ↓zq_O, ↓zq_P, ↓zq_Q, ↓zq_R, zq_S, zq_T, zq_U, zq_V, zq_W, zq_X, zq_Y, zq_Z, zq_0, zq_1, zq_2, zq_3, zq_4, zq_5, ↓zq_6, ↓zq_7, ↓zq_8, ↓zq_9, ↓zq_aa, zq_ab, zq_ac, zq_ad, zq_ae, zq_af, zq_ag, ↓zq_ah, ↓zq_ai, ↓zq_aj, zq_ak, ↓zq_al, ↓zq_am, b1, b22, b46, b47, b24, b25, e_b2, x_o1, x_o2, r_isIn, r1, q0, g3, g4, g5, l2, l3, w0, w1, w2, q1, q2, st], hb.1, hb.2⟩
      · by_cases q3 : M 196 d.toNat = 1
        · have hb := hup (x := x2) y2
          exact ⟨0, e_up M 198 (120 * d + i).toNat x2, by simp [zq_a, zq_b, zq_c, zq_d, zq_e, zq_f, zq_g, zq_h, zq_i, zq_j, zq_k, zq_l, zq_m, zq_n, zq_o, zq_p, zq_q, zq_r, zq_s, zq_t, zq_u, zq_v, zq_w, zq_x, zq_y, zq_z, zq_A, zq_B, zq_C, zq_D, zq_E, zq_F, zq_G, zq_H, zq_I, zq_J, zq_K, zq_L, ↓zq_M, ↓zq_N, ↓zq_O, ↓zq_P, ↓zq_Q, ↓zq_R, zq_S, zq_T, zq_U, zq_V, zq_W, zq_X, zq_Y, zq_Z, zq_0, zq_1, zq_2, zq_3, zq_4, zq_5, ↓zq_6, ↓zq_7, ↓zq_8, ↓zq_9, ↓zq_aa, zq_ab, zq_ac, zq_ad, zq_ae, zq_af, zq_ag, ↓zq_ah, ↓zq_ai, ↓zq_aj, zq_ak, ↓zq_al, ↓zq_am, b1, b22, b46, b47, b24, b25, e_b2, x_o1, x_o2, r_isIn, r1, q0, g3, g4, g5, l2, l3, w0, w1, w2, q1, q3, st], hb.1, hb.2⟩
        · have hb := hup (x := v) hv
          exact ⟨0, e_up M 198 (120 * d + i).toNat v, by simp [zq_a, zq_b, zq_c, zq_d, zq_e, zq_f, zq_g, zq_h, zq_i, zq_j, zq_k, zq_l, zq_m, zq_n, zq_o, zq_p, zq_q, zq_r, zq_s, zq_t, zq_u, zq_v, zq_w, zq_x, zq_y, zq_z, zq_A, zq_B, zq_C, zq_D, zq_E, zq_F, zq_G, zq_H, zq_I, zq_J, zq_K, zq_L, ↓zq_M, ↓zq_N, ↓zq_O, ↓zq_P, ↓zq_Q, ↓zq_R, zq_S, zq_T, zq_U, zq_V, zq_W, zq_X, zq_Y, zq_Z, zq_0, zq_1, zq_2, zq_3, zq_4, zq_5, ↓zq_6, ↓zq_7, ↓zq_8, ↓zq_9, ↓zq_aa, zq_ab, zq_ac, zq_ad, zq_ae, zq_af, zq_ag, ↓zq_ah, ↓zq_ai, ↓zq_aj, zq_ak, ↓zq_al, ↓zq_am, b1, b22, b46, b47, b24, b25, e_b2, x_o1, x_o2, r_isIn, r1, q0, g3, g4, g5, l2, l3, w0, w1, w2, q1, q2, q3, st], hb.1, hb.2⟩
    · exact ⟨-13, M, by simp [zq_a, zq_b, zq_c, zq_d, zq_e, zq_f, zq_g, zq_h, zq_i, zq_j, zq_k, zq_l, zq_m, zq_n, zq_o, zq_p, zq_q, zq_r, zq_s, zq_t, zq_u, zq_v, zq_w, zq_x, zq_y, zq_z, zq_A, zq_B, zq_C, zq_D, zq_E, zq_F, zq_G, zq_H, zq_I, zq_J, zq_K, zq_L, ↓zq_M, ↓zq_N, ↓zq_O, ↓zq_P, ↓zq_Q, ↓zq_R, zq_S, zq_T, zq_U, zq_V, zq_W, zq_X, zq_Y, zq_Z, zq_0, zq_1, zq_2, zq_3, zq_4, zq_5, ↓zq_6, ↓zq_7, ↓zq_8, ↓zq_9, ↓zq_aa, zq_ab, zq_ac, zq_ad, zq_ae, zq_af, zq_ag, ↓zq_ah, ↓zq_ai, ↓zq_aj, zq_ak, ↓zq_al, ↓zq_am, b1, b22, b46, b47, b24, b25, e_b2, x_o1, x_o2, r_isIn, r1, q0, g3, g4, g5, l2, l3, w0, q1], hM, a_fr_rf⟩
  · exact ⟨r, M, by simp [zq_a, zq_b, zq_c, zq_d, zq_e, zq_f, zq_g, zq_h, zq_i, zq_j, zq_k, zq_l, zq_m, zq_n, zq_o, zq_p, zq_q, zq_r, zq_s, zq_t, zq_u, zq_v, zq_w, zq_x, zq_y, zq_z, zq_A, zq_B, zq_C, zq_D, zq_E, zq_F, zq_G, zq_H, zq_I, zq_J, zq_K, zq_L, ↓zq_M, ↓zq_N, ↓zq_O, ↓zq_P, ↓zq_Q, ↓zq_R, zq_S, zq_T, zq_U, zq_V, zq_W, zq_X, zq_Y, zq_Z, zq_0, zq_1, zq_2, zq_3, zq_4, zq_5, ↓zq_6, ↓zq_7, ↓zq_8, ↓zq_9, ↓zq_aa, zq_ab, zq_ac, zq_ad, zq_ae, zq_af, zq_ag, ↓zq_ah, ↓zq_ai, ↓zq_aj, zq_ak, ↓zq_al, ↓zq_am, b1, b22, b46, b47, b24, b25, e_b2, x_o1, x_o2, r1, q0], hM, a_fr_rf⟩
end
