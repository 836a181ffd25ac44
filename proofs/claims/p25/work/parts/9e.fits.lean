/-! FAULTS that FIT, the NEXT LOOK, by the reference -/
theorem r_takesFault {k : Int} {M : EM} (hJ : r_J M) (hc : r_cd 48 48 M) (hk : 0 ≤ k ∧ k < 1 + M 192 13 + M 192 14) : ∃ M', E_C 249 [192, k] M = some (0, M') ∧ r_J M' ∧ a_fr r_wq M M' ∧ M' 192 13 = M 192 13 ∧ M' 192 14 = M 192 14 := by
  obtain ⟨⟨c1, c2⟩, c3, c4⟩ := hc
  have hone : ∀ a b : Int, (-2147483648 ≤ a ∧ a ≤ 2147483647) → (-2147483648 ≤ b ∧ b ≤ 2147483647) → r_J (e_up (e_up M 192 23 a) 192 24 b) ∧ a_fr r_wq M (e_up (e_up M 192 23 a) 192 24 b) ∧ (e_up (e_up M 192 23 a) 192 24 b) 192 13 = M 192 13 ∧ (e_up (e_up M 192 23 a) 192 24 b) 192 14 = M 192 14 := by
    intro a b ha hb
    obtain ⟨u1, u2⟩ := r_qfld (k := 23) (v := a) (by decide) (by decide) ha hJ
    obtain ⟨v1, v2⟩ := r_qfld (k := 24) (v := b) (by decide) (by decide) hb u1
    exact ⟨v1, a_fr_tr u2 v2, (c_up_n (fun hc => absurd hc.2 (by decide))).trans (c_up_n (fun hc => absurd hc.2 (by decide))), (c_up_n (fun hc => absurd hc.2 (by decide))).trans (c_up_n (fun hc => absurd hc.2 (by decide)))⟩
  have w1 : e_w (k - 1) = k - 1 := a_w_id (by omega) (by omega)
  have w2 : e_w (k - 1 - M 192 13) = k - 1 - M 192 13 := a_w_id (by omega) (by omega)
  have e13 : ∀ a, (e_up M 192 23 a) 192 13 = M 192 13 := fun a => c_up_n (fun hc => absurd hc.2 (by decide))
  rcases x_lt 0 k with ⟨q1, q1_n⟩ | ⟨q1, q1_n⟩
  · rcases x_le k (M 192 13) with ⟨q2, q2_n⟩ | ⟨q2, q2_n⟩
    · have l1 := r_ld202 (i := k - 1) (M := M) (by omega) (by omega)
      refine ⟨_, ?_, hone (M 202 (k - 1).toNat) (-1) (c_M32 hJ.1 (by decide) (by decide +kernel)) (by decide)⟩
      rw [r_ent (show e_rok 249 [192, k] = true from decide_eq_true r_ref)]
      show e_tv E_C (E_V 249) e_t249_0 [192, k] M = _
      unfold e_t249_0
      simp [zq_a, zq_b, zq_c, zq_d, zq_e, zq_f, zq_g, zq_h, zq_i, zq_j, zq_k, zq_l, zq_m, zq_n, zq_o, zq_p, zq_q, zq_r, zq_s, zq_t, zq_u, zq_v, zq_w, zq_x, zq_y, zq_z, zq_A, zq_B, zq_C, zq_D, zq_E, zq_F, zq_G, zq_H, zq_I, zq_J, zq_K, zq_L, ↓zq_M, ↓zq_N, ↓zq_O, ↓zq_P, ↓zq_Q, ↓zq_R, zq_S, zq_T, zq_U, zq_V, zq_W, zq_X, zq_Y, zq_Z, zq_0, zq_1, zq_2, zq_3, zq_4, zq_5, ↓zq_6, ↓zq_7, ↓zq_8, ↓zq_9, ↓zq_aa, zq_ab, zq_ac, zq_ad, zq_ae, zq_af, zq_ag, ↓zq_ah, ↓zq_ai, ↓zq_aj, zq_ak, ↓zq_al, ↓zq_am, e_b1, e_b2, x_o1, x_o2, r_O11, r_O12, r_F13, r_P23, r_P24, e13, q1, q1_n, q2, q2_n, w1, l1]
    · have l2 : ∀ a, e_op 60 [203, k - 1 - M 192 13] (e_up M 192 23 a) = some ((e_up M 192 23 a) 203 (k - 1 - M 192 13).toNat) := fun a => r_ld203 (by omega) (by omega)
      refine ⟨_, ?_, hone (-1) ((e_up M 192 23 (-1)) 203 (k - 1 - M 192 13).toNat) (by decide) ?_⟩
      · rw [r_ent (show e_rok 249 [192, k] = true from decide_eq_true r_ref)]
        show e_tv E_C (E_V 249) e_t249_0 [192, k] M = _
        unfold e_t249_0
        simp [zq_a, zq_b, zq_c, zq_d, zq_e, zq_f, zq_g, zq_h, zq_i, zq_j, zq_k, zq_l, zq_m, zq_n, zq_o, zq_p, zq_q, zq_r, zq_s, zq_t, zq_u, zq_v, zq_w, zq_x, zq_y, zq_z, zq_A, zq_B, zq_C, zq_D, zq_E, zq_F, zq_G, zq_H, zq_I, zq_J, zq_K, zq_L, ↓zq_M, ↓zq_N, ↓zq_O, ↓zq_P, ↓zq_Q, ↓zq_R, zq_S, zq_T, zq_U, zq_V, zq_W, zq_X, zq_Y, zq_Z, zq_0, zq_1, zq_2, zq_3, zq_4, zq_5, ↓zq_6, ↓zq_7, ↓zq_8, ↓zq_9, ↓zq_aa, zq_ab, zq_ac, zq_ad, zq_ae, zq_af, zq_ag, ↓zq_ah, ↓zq_ai, ↓zq_aj, zq_ak, ↓zq_al, ↓zq_am, e_b1, e_b2, x_o1, x_o2, r_O11, r_O12, r_F13, r_P23, r_P24, e13, q1, q1_n, q2, q2_n, w1, w2, l2]
      · rw [c_up_n (fun hc => absurd hc.1 (by decide))]
        exact c_M32 hJ.1 (by decide) (by decide +kernel)
  · have q3 : ¬ (M 192 13 < k) := by omega
    have q3' : k ≤ M 192 13 := by omega
    refine ⟨_, ?_, hone (-1) (-1) (by decide) (by decide)⟩
    rw [r_ent (show e_rok 249 [192, k] = true from decide_eq_true r_ref)]
    show e_tv E_C (E_V 249) e_t249_0 [192, k] M = _
    unfold e_t249_0
    simp [zq_a, zq_b, zq_c, zq_d, zq_e, zq_f, zq_g, zq_h, zq_i, zq_j, zq_k, zq_l, zq_m, zq_n, zq_o, zq_p, zq_q, zq_r, zq_s, zq_t, zq_u, zq_v, zq_w, zq_x, zq_y, zq_z, zq_A, zq_B, zq_C, zq_D, zq_E, zq_F, zq_G, zq_H, zq_I, zq_J, zq_K, zq_L, ↓zq_M, ↓zq_N, ↓zq_O, ↓zq_P, ↓zq_Q, ↓zq_R, zq_S, zq_T, zq_U, zq_V, zq_W, zq_X, zq_Y, zq_Z, zq_0, zq_1, zq_2, zq_3, zq_4, zq_5, ↓zq_6, ↓zq_7, ↓zq_8, ↓zq_9, ↓zq_aa, zq_ab, zq_ac, zq_ad, zq_ae, zq_af, zq_ag, ↓zq_ah, ↓zq_ai, ↓zq_aj, zq_ak, ↓zq_al, ↓zq_am, e_b1, e_b2, x_o1, x_o2, r_O11, r_O12, r_F13, r_P23, r_P24, e13, q1, q1_n, q3, q3']
theorem r_noFault {M : EM} (hJ : r_J M) : ∃ M', E_C 250 [192] M = some (0, M') ∧ r_J M' ∧ a_fr r_wq M M' ∧ M' 192 13 = M 192 13 ∧ M' 192 14 = M 192 14 := by
  obtain ⟨u1, u2⟩ := r_qfld (k := 23) (v := -1) (by decide) (by decide) (by decide) hJ
  obtain ⟨v1, v2⟩ := r_qfld (k := 24) (v := -1) (by decide) (by decide) (by decide) u1
  refine ⟨e_up (e_up M 192 23 (-1)) 192 24 (-1), ?_, v1, a_fr_tr u2 v2, (c_up_n (fun hc => absurd hc.2 (by decide))).trans (c_up_n (fun hc => absurd hc.2 (by decide))), (c_up_n (fun hc => absurd hc.2 (by decide))).trans (c_up_n (fun hc => absurd hc.2 (by decide)))⟩
  rw [r_ent (show e_rok 250 [192] = true from decide_eq_true r_ref)]
  show e_tv E_C (E_V 250) e_t250_0 [192] M = _
  unfold e_t250_0
  simp [zq_a, zq_b, zq_c, zq_d, zq_e, zq_f, zq_g, zq_h, zq_i, zq_j, zq_k, zq_l, zq_m, zq_n, zq_o, zq_p, zq_q, zq_r, zq_s, zq_t, zq_u, zq_v, zq_w, zq_x, zq_y, zq_z, zq_A, zq_B, zq_C, zq_D, zq_E, zq_F, zq_G, zq_H, zq_I, zq_J, zq_K, zq_L, ↓zq_M, ↓zq_N, ↓zq_O, ↓zq_P, ↓zq_Q, ↓zq_R, zq_S, zq_T, zq_U, zq_V, zq_W, zq_X, zq_Y, zq_Z, zq_0, zq_1, zq_2, zq_3, zq_4, zq_5, ↓zq_6, ↓zq_7, ↓zq_8, ↓zq_9, ↓zq_aa, zq_ab, zq_ac, zq_ad, zq_ae, zq_af, zq_ag, ↓zq_ah, ↓zq_ai, ↓zq_aj, zq_ak, ↓zq_al, ↓zq_am, e_b1, e_b2, x_o1, x_o2, r_P23, r_P24]
theorem r_wrongFits {p d : Int} {M : EM} (hJ : r_J M) : ∃ r, E_C 251 [192, p, d] M = some (r, M) ∧ (r = 0 → (0 ≤ p ∧ p < r_G M 1198) ∧ (0 ≤ d ∧ d ≤ 7) ∧ M 197 d.toNat ≤ 40) := by
  have hW := (r_J_E hJ).2.1
  by_cases q0 : 0 ≤ p ∧ p < r_G M 1198
  · have ip := r_ip1 hW q0
    obtain ⟨n, kn, -, hn⟩ := r_wrongRow d 0 M
    by_cases q : n = 0
    · subst q
      have hd := hn rfl
      have ls := (r_isD d M hd).2.2.1
      by_cases c1 : (M 197 d.toNat).tmod 2 = 1
      · refine ⟨-13, ?_, fun h => absurd h (by decide)⟩
        rw [r_ent (show e_rok 251 [192, p, d] = true from decide_eq_true r_ref)]
        show e_tv E_C (E_V 251) e_t251_0 [192, p, d, 0] M = _
        unfold e_t251_0
        simp [zq_a, zq_b, zq_c, zq_d, zq_e, zq_f, zq_g, zq_h, zq_i, zq_j, zq_k, zq_l, zq_m, zq_n, zq_o, zq_p, zq_q, zq_r, zq_s, zq_t, zq_u, zq_v, zq_w, zq_x, zq_y, zq_z, zq_A, zq_B, zq_C, zq_D, zq_E, zq_F, zq_G, zq_H, zq_I, zq_J, zq_K, zq_L, ↓zq_M, ↓zq_N, ↓zq_O, ↓zq_P, ↓zq_Q, ↓zq_R, zq_S, zq_T, zq_U, zq_V, zq_W, zq_X, zq_Y, zq_Z, zq_0, zq_1, zq_2, zq_3, zq_4, zq_5, ↓zq_6, ↓zq_7, ↓zq_8, ↓zq_9, ↓zq_aa, zq_ab, zq_ac, zq_ad, zq_ae, zq_af, zq_ag, ↓zq_ah, ↓zq_ai, ↓zq_aj, zq_ak, ↓zq_al, ↓zq_am, e_b1, e_b2, x_o1, x_o2, r_O4, ip, kn, ls, c1]
      · rcases x_lt 40 (M 197 d.toNat) with ⟨c2, c2_n⟩ | ⟨c2, c2_n⟩
        · refine ⟨-13, ?_, fun h => absurd h (by decide)⟩
          rw [r_ent (show e_rok 251 [192, p, d] = true from decide_eq_true r_ref)]
          show e_tv E_C (E_V 251) e_t251_0 [192, p, d, 0] M = _
          unfold e_t251_0
          simp [zq_a, zq_b, zq_c, zq_d, zq_e, zq_f, zq_g, zq_h, zq_i, zq_j, zq_k, zq_l, zq_m, zq_n, zq_o, zq_p, zq_q, zq_r, zq_s, zq_t, zq_u, zq_v, zq_w, zq_x, zq_y, zq_z, zq_A, zq_B, zq_C, zq_D, zq_E, zq_F, zq_G, zq_H, zq_I, zq_J, zq_K, zq_L, ↓zq_M, ↓zq_N, ↓zq_O, ↓zq_P, ↓zq_Q, ↓zq_R, zq_S, zq_T, zq_U, zq_V, zq_W, zq_X, zq_Y, zq_Z, zq_0, zq_1, zq_2, zq_3, zq_4, zq_5, ↓zq_6, ↓zq_7, ↓zq_8, ↓zq_9, ↓zq_aa, zq_ab, zq_ac, zq_ad, zq_ae, zq_af, zq_ag, ↓zq_ah, ↓zq_ai, ↓zq_aj, zq_ak, ↓zq_al, ↓zq_am, e_b1, e_b2, x_o1, x_o2, r_O4, ip, kn, ls, c1, c2, c2_n]
        · refine ⟨0, ?_, fun _ => ⟨q0, hd, by omega⟩⟩
          rw [r_ent (show e_rok 251 [192, p, d] = true from decide_eq_true r_ref)]
          show e_tv E_C (E_V 251) e_t251_0 [192, p, d, 0] M = _
          unfold e_t251_0
          simp [zq_a, zq_b, zq_c, zq_d, zq_e, zq_f, zq_g, zq_h, zq_i, zq_j, zq_k, zq_l, zq_m, zq_n, zq_o, zq_p, zq_q, zq_r, zq_s, zq_t, zq_u, zq_v, zq_w, zq_x, zq_y, zq_z, zq_A, zq_B, zq_C, zq_D, zq_E, zq_F, zq_G, zq_H, zq_I, zq_J, zq_K, zq_L, ↓zq_M, ↓zq_N, ↓zq_O, ↓zq_P, ↓zq_Q, ↓zq_R, zq_S, zq_T, zq_U, zq_V, zq_W, zq_X, zq_Y, zq_Z, zq_0, zq_1, zq_2, zq_3, zq_4, zq_5, ↓zq_6, ↓zq_7, ↓zq_8, ↓zq_9, ↓zq_aa, zq_ab, zq_ac, zq_ad, zq_ae, zq_af, zq_ag, ↓zq_ah, ↓zq_ai, ↓zq_aj, zq_ak, ↓zq_al, ↓zq_am, e_b1, e_b2, x_o1, x_o2, r_O4, ip, kn, ls, c1, c2, c2_n]
    · refine ⟨n, ?_, fun h => absurd h q⟩
      rw [r_ent (show e_rok 251 [192, p, d] = true from decide_eq_true r_ref)]
      show e_tv E_C (E_V 251) e_t251_0 [192, p, d, 0] M = _
      unfold e_t251_0
      simp [zq_a, zq_b, zq_c, zq_d, zq_e, zq_f, zq_g, zq_h, zq_i, zq_j, zq_k, zq_l, zq_m, zq_n, zq_o, zq_p, zq_q, zq_r, zq_s, zq_t, zq_u, zq_v, zq_w, zq_x, zq_y, zq_z, zq_A, zq_B, zq_C, zq_D, zq_E, zq_F, zq_G, zq_H, zq_I, zq_J, zq_K, zq_L, ↓zq_M, ↓zq_N, ↓zq_O, ↓zq_P, ↓zq_Q, ↓zq_R, zq_S, zq_T, zq_U, zq_V, zq_W, zq_X, zq_Y, zq_Z, zq_0, zq_1, zq_2, zq_3, zq_4, zq_5, ↓zq_6, ↓zq_7, ↓zq_8, ↓zq_9, ↓zq_aa, zq_ab, zq_ac, zq_ad, zq_ae, zq_af, zq_ag, ↓zq_ah, ↓zq_ai, ↓zq_aj, zq_ak, ↓zq_al, ↓zq_am, e_b1, e_b2, x_o1, x_o2, ip, kn, q]
  · have ip := r_ip0 hW q0
    refine ⟨-1, ?_, fun h => absurd h (by decide)⟩
    rw [r_ent (show e_rok 251 [192, p, d] = true from decide_eq_true r_ref)]
    show e_tv E_C (E_V 251) e_t251_0 [192, p, d, 0] M = _
    unfold e_t251_0
    simp [zq_a, zq_b, zq_c, zq_d, zq_e, zq_f, zq_g, zq_h, zq_i, zq_j, zq_k, zq_l, zq_m, zq_n, zq_o, zq_p, zq_q, zq_r, zq_s, zq_t, zq_u, zq_v, zq_w, zq_x, zq_y, zq_z, zq_A, zq_B, zq_C, zq_D, zq_E, zq_F, zq_G, zq_H, zq_I, zq_J, zq_K, zq_L, ↓zq_M, ↓zq_N, ↓zq_O, ↓zq_P, ↓zq_Q, ↓zq_R, zq_S, zq_T, zq_U, zq_V, zq_W, zq_X, zq_Y, zq_Z, zq_0, zq_1, zq_2, zq_3, zq_4, zq_5, ↓zq_6, ↓zq_7, ↓zq_8, ↓zq_9, ↓zq_aa, zq_ab, zq_ac, zq_ad, zq_ae, zq_af, zq_ag, ↓zq_ah, ↓zq_ai, ↓zq_aj, zq_ak, ↓zq_al, ↓zq_am, e_b1, e_b2, x_o1, x_o2, ip]
/-- while FAULTS are looked at -/
def r_fv (p d : Int) (M : EM) : Prop := r_J M ∧ (0 ≤ p ∧ p < r_G M 1198) ∧ (0 ≤ d ∧ d ≤ 7) ∧ M 197 d.toNat ≤ 40 ∧ r_cd 48 48 M
theorem r_fv_to {p d : Int} {M M' : EM} (h : r_fv p d M) (hJ : r_J M') (hf : a_fr r_wq M M') (e3 : M' 192 13 = M 192 13) (e4 : M' 192 14 = M 192 14) : r_fv p d M' := by
  obtain ⟨h1, h2, h3, h4, h5⟩ := h
  refine ⟨hJ, by rw [r_q_G hf]; exact h2, h3, by rw [r_q_same hf (by decide)]; exact h4, ?_⟩
  unfold r_cd
  rw [e3, e4]
  exact h5
theorem r_fb_loop {p d k : Int} {M : EM} (hJ : r_J M) (hp : 0 ≤ p ∧ p < r_G M 1198) (hd : 0 ≤ d ∧ d ≤ 7) (hz : M 197 d.toNat ≤ 40) : ∀ (m : Nat) (x4 x5 : Int), (40 - x5).toNat ≤ m → 0 ≤ x5 → (x4 = 0 ∨ x4 = 1) → ∃ r M', E_V 252 11 [192, p, d, k, x4, x5] M = some (r, M') ∧ (r = 0 ∨ r = 1) ∧ r_J M' ∧ a_fr r_wq M M' ∧ M' 192 13 = M 192 13 ∧ M' 192 14 = M 192 14 := by
  have ls := (r_isD d M hd).2.2.1
  have hW := (r_J_E hJ).2.1
  have hend : ∀ x4 x5, (x4 = 0 ∨ x4 = 1) → ¬ (x5 < M 197 d.toNat ∧ x4 = 1) → ∃ r M', E_V 252 11 [192, p, d, k, x4, x5] M = some (r, M') ∧ (r = 0 ∨ r = 1) ∧ r_J M' ∧ a_fr r_wq M M' ∧ M' 192 13 = M 192 13 ∧ M' 192 14 = M 192 14 := by
    intro x4 x5 h4 q
    obtain ⟨M', k', t⟩ := r_noFault hJ
    refine ⟨x4, M', ?_, h4, t⟩
    rcases x_lt x5 (M 197 d.toNat) with ⟨q0, q0_n⟩ | ⟨q0, q0_n⟩
    · have q1 : x4 = 0 := by omega
      subst q1
      rw [E_V_eq]
      show e_tv E_C (E_V 252) e_t252_11 [192, p, d, k, 0, x5] M = _
      unfold e_t252_11
      simp [zq_a, zq_b, zq_c, zq_d, zq_e, zq_f, zq_g, zq_h, zq_i, zq_j, zq_k, zq_l, zq_m, zq_n, zq_o, zq_p, zq_q, zq_r, zq_s, zq_t, zq_u, zq_v, zq_w, zq_x, zq_y, zq_z, zq_A, zq_B, zq_C, zq_D, zq_E, zq_F, zq_G, zq_H, zq_I, zq_J, zq_K, zq_L, ↓zq_M, ↓zq_N, ↓zq_O, ↓zq_P, ↓zq_Q, ↓zq_R, zq_S, zq_T, zq_U, zq_V, zq_W, zq_X, zq_Y, zq_Z, zq_0, zq_1, zq_2, zq_3, zq_4, zq_5, ↓zq_6, ↓zq_7, ↓zq_8, ↓zq_9, ↓zq_aa, zq_ab, zq_ac, zq_ad, zq_ae, zq_af, zq_ag, ↓zq_ah, ↓zq_ai, ↓zq_aj, zq_ak, ↓zq_al, ↓zq_am, e_b1, e_b2, x_o1, x_o2, r_O4, ls, q0, q0_n, k']
    · rw [E_V_eq]
      show e_tv E_C (E_V 252) e_t252_11 [192, p, d, k, x4, x5] M = _
      unfold e_t252_11
      simp [zq_a, zq_b, zq_c, zq_d, zq_e, zq_f, zq_g, zq_h, zq_i, zq_j, zq_k, zq_l, zq_m, zq_n, zq_o, zq_p, zq_q, zq_r, zq_s, zq_t, zq_u, zq_v, zq_w, zq_x, zq_y, zq_z, zq_A, zq_B, zq_C, zq_D, zq_E, zq_F, zq_G, zq_H, zq_I, zq_J, zq_K, zq_L, ↓zq_M, ↓zq_N, ↓zq_O, ↓zq_P, ↓zq_Q, ↓zq_R, zq_S, zq_T, zq_U, zq_V, zq_W, zq_X, zq_Y, zq_Z, zq_0, zq_1, zq_2, zq_3, zq_4, zq_5, ↓zq_6, ↓zq_7, ↓zq_8, ↓zq_9, ↓zq_aa, zq_ab, zq_ac, zq_ad, zq_ae, zq_af, zq_ag, ↓zq_ah, ↓zq_ai, ↓zq_aj, zq_ak, ↓zq_al, ↓zq_am, e_b1, e_b2, x_o1, x_o2, r_O4, ls, q0, q0_n, k']
  intro m
  induction m with
  | zero => intro x4 x5 hm h0 h4; exact hend x4 x5 h4 (by omega)
  | succ m ih =>
    intro x4 x5 hm h0 h4
    by_cases q : x5 < M 197 d.toNat ∧ x4 = 1
    · obtain ⟨q0, q1⟩ := q
      subst q1
      have w1 : e_w (120 * d) = 120 * d := a_w_id (by omega) (by omega)
      have w2 : e_w (120 * d + x5) = 120 * d + x5 := a_w_id (by omega) (by omega)
      have w3 : e_w (120 * d + x5 + 1) = 120 * d + x5 + 1 := a_w_id (by omega) (by omega)
      have w4 : e_w (x5 + 2) = x5 + 2 := a_w_id (by omega) (by omega)
      have le := r_rdE (i := 120 * d + x5) (M := M) (by omega) (by omega)
      have le2 := r_rdE (i := 120 * d + x5 + 1) (M := M) (by omega) (by omega)
      obtain ⟨c, kc, -⟩ := r_currentOf (u := M 198 (120 * d + x5).toNat) (r_J_E hJ) hW.2.1 (r_pt_of hW hp)
      by_cases e : c = M 198 (120 * d + x5 + 1).toNat
      · obtain ⟨r, M', k', t⟩ := ih 1 (x5 + 2) (by omega) (by omega) (Or.inr rfl)
        refine ⟨r, M', ?_, t⟩
        rw [e] at kc
        rw [E_V_eq]
        show e_tv E_C (E_V 252) e_t252_11 [192, p, d, k, 1, x5] M = _
        unfold e_t252_11
        simp [zq_a, zq_b, zq_c, zq_d, zq_e, zq_f, zq_g, zq_h, zq_i, zq_j, zq_k, zq_l, zq_m, zq_n, zq_o, zq_p, zq_q, zq_r, zq_s, zq_t, zq_u, zq_v, zq_w, zq_x, zq_y, zq_z, zq_A, zq_B, zq_C, zq_D, zq_E, zq_F, zq_G, zq_H, zq_I, zq_J, zq_K, zq_L, ↓zq_M, ↓zq_N, ↓zq_O, ↓zq_P, ↓zq_Q, ↓zq_R, zq_S, zq_T, zq_U, zq_V, zq_W, zq_X, zq_Y, zq_Z, zq_0, zq_1, zq_2, zq_3, zq_4, zq_5, ↓zq_6, ↓zq_7, ↓zq_8, ↓zq_9, ↓zq_aa, zq_ab, zq_ac, zq_ad, zq_ae, zq_af, zq_ag, ↓zq_ah, ↓zq_ai, ↓zq_aj, zq_ak, ↓zq_al, ↓zq_am, e_b1, e_b2, x_o1, x_o2, r_O4, r_O5, ls, q0, w1, w2, w3, w4, le, le2, kc, k']
      · obtain ⟨r, M', k', t⟩ := ih 0 (x5 + 2) (by omega) (by omega) (Or.inl rfl)
        refine ⟨r, M', ?_, t⟩
        rw [E_V_eq]
        show e_tv E_C (E_V 252) e_t252_11 [192, p, d, k, 1, x5] M = _
        unfold e_t252_11
        simp [zq_a, zq_b, zq_c, zq_d, zq_e, zq_f, zq_g, zq_h, zq_i, zq_j, zq_k, zq_l, zq_m, zq_n, zq_o, zq_p, zq_q, zq_r, zq_s, zq_t, zq_u, zq_v, zq_w, zq_x, zq_y, zq_z, zq_A, zq_B, zq_C, zq_D, zq_E, zq_F, zq_G, zq_H, zq_I, zq_J, zq_K, zq_L, ↓zq_M, ↓zq_N, ↓zq_O, ↓zq_P, ↓zq_Q, ↓zq_R, zq_S, zq_T, zq_U, zq_V, zq_W, zq_X, zq_Y, zq_Z, zq_0, zq_1, zq_2, zq_3, zq_4, zq_5, ↓zq_6, ↓zq_7, ↓zq_8, ↓zq_9, ↓zq_aa, zq_ab, zq_ac, zq_ad, zq_ae, zq_af, zq_ag, ↓zq_ah, ↓zq_ai, ↓zq_aj, zq_ak, ↓zq_al, ↓zq_am, e_b1, e_b2, x_o1, x_o2, r_O4, r_O5, ls, q0, w1, w2, w3, w4, le, le2, kc, e, k']
    · exact hend x4 x5 h4 q
theorem r_fitsBy {p d k : Int} {M : EM} (hv : r_fv p d M) (hk : 0 ≤ k ∧ k < 1 + M 192 13 + M 192 14) : ∃ r M', E_C 252 [192, p, d, k] M = some (r, M') ∧ (r = 0 ∨ r = 1) ∧ r_fv p d M' ∧ a_fr r_wq M M' ∧ M' 192 13 = M 192 13 ∧ M' 192 14 = M 192 14 := by
  have hv' := hv
  obtain ⟨h1, h2, h3, h4, h5⟩ := hv'
  obtain ⟨M1, k1, a1, a2, a3, a4⟩ := r_takesFault h1 h5 hk
  have v1 := r_fv_to hv a1 a2 a3 a4
  obtain ⟨r, M2, k2, b0, b1, b2, b3, b4⟩ := r_fb_loop (k := k) a1 v1.2.1 h3 v1.2.2.2.1 40 1 0 (by decide) (by decide) (Or.inr rfl)
  refine ⟨r, M2, ?_, b0, r_fv_to v1 b1 b2 b3 b4, a_fr_tr a2 b2, b3.trans a3, b4.trans a4⟩
  rw [r_ent (show e_rok 252 [192, p, d, k] = true from decide_eq_true r_ref)]
  show e_tv E_C (E_V 252) e_t252_0 [192, p, d, k, 0, 0] M = _
  unfold e_t252_0
  simp [zq_a, zq_b, zq_c, zq_d, zq_e, zq_f, zq_g, zq_h, zq_i, zq_j, zq_k, zq_l, zq_m, zq_n, zq_o, zq_p, zq_q, zq_r, zq_s, zq_t, zq_u, zq_v, zq_w, zq_x, zq_y, zq_z, zq_A, zq_B, zq_C, zq_D, zq_E, zq_F, zq_G, zq_H, zq_I, zq_J, zq_K, zq_L, ↓zq_M, ↓zq_N, ↓zq_O, ↓zq_P, ↓zq_Q, ↓zq_R, zq_S, zq_T, zq_U, zq_V, zq_W, zq_X, zq_Y, zq_Z, zq_0, zq_1, zq_2, zq_3, zq_4, zq_5, ↓zq_6, ↓zq_7, ↓zq_8, ↓zq_9, ↓zq_aa, zq_ab, zq_ac, zq_ad, zq_ae, zq_af, zq_ag, ↓zq_ah, ↓zq_ai, ↓zq_aj, zq_ak, ↓zq_al, ↓zq_am, e_b1, e_b2, x_o1, x_o2, k1, k2]
theorem r_fits_loop {p d i : Int} {c1 c2 : Int} : ∀ (m : Nat) (x5 x6 : Int) (M : EM), r_fv p d M → M 192 13 = c1 → M 192 14 = c2 → (1 + c1 + c2 - x6).toNat ≤ m → 0 ≤ x6 → ∃ r M', E_V 253 36 [192, p, d, i, 0, x5, x6] M = some (r, M') ∧ r_J M' ∧ a_fr r_wq M M' := by
  have hend : ∀ x5 x6 M, r_fv p d M → M 192 13 = c1 → M 192 14 = c2 → ¬ (x6 < 1 + c1 + c2) → ∃ r M', E_V 253 36 [192, p, d, i, 0, x5, x6] M = some (r, M') ∧ r_J M' ∧ a_fr r_wq M M' := by
    intro x5 x6 M hv e1 e2 q
    obtain ⟨⟨a1, a2⟩, a3, a4⟩ := hv.2.2.2.2
    have w1 : e_w (1 + M 192 13) = 1 + c1 := by rw [a_w_id (by omega) (by omega), e1]
    have w2 : e_w (1 + c1 + M 192 14) = 1 + c1 + c2 := by rw [a_w_id (by omega) (by omega), e2]
    by_cases c : i = -1
    · refine ⟨x5, M, ?_, hv.1, a_fr_rf⟩
      rw [E_V_eq]
      show e_tv E_C (E_V 253) e_t253_36 [192, p, d, i, 0, x5, x6] M = _
      unfold e_t253_36
      simp [zq_a, zq_b, zq_c, zq_d, zq_e, zq_f, zq_g, zq_h, zq_i, zq_j, zq_k, zq_l, zq_m, zq_n, zq_o, zq_p, zq_q, zq_r, zq_s, zq_t, zq_u, zq_v, zq_w, zq_x, zq_y, zq_z, zq_A, zq_B, zq_C, zq_D, zq_E, zq_F, zq_G, zq_H, zq_I, zq_J, zq_K, zq_L, ↓zq_M, ↓zq_N, ↓zq_O, ↓zq_P, ↓zq_Q, ↓zq_R, zq_S, zq_T, zq_U, zq_V, zq_W, zq_X, zq_Y, zq_Z, zq_0, zq_1, zq_2, zq_3, zq_4, zq_5, ↓zq_6, ↓zq_7, ↓zq_8, ↓zq_9, ↓zq_aa, zq_ab, zq_ac, zq_ad, zq_ae, zq_af, zq_ag, ↓zq_ah, ↓zq_ai, ↓zq_aj, zq_ak, ↓zq_al, ↓zq_am, e_b1, e_b2, x_o1, x_o2, r_F13, r_F14, w1, w2, q, c]
    · refine ⟨-4, M, ?_, hv.1, a_fr_rf⟩
      rw [E_V_eq]
      show e_tv E_C (E_V 253) e_t253_36 [192, p, d, i, 0, x5, x6] M = _
      unfold e_t253_36
      simp [zq_a, zq_b, zq_c, zq_d, zq_e, zq_f, zq_g, zq_h, zq_i, zq_j, zq_k, zq_l, zq_m, zq_n, zq_o, zq_p, zq_q, zq_r, zq_s, zq_t, zq_u, zq_v, zq_w, zq_x, zq_y, zq_z, zq_A, zq_B, zq_C, zq_D, zq_E, zq_F, zq_G, zq_H, zq_I, zq_J, zq_K, zq_L, ↓zq_M, ↓zq_N, ↓zq_O, ↓zq_P, ↓zq_Q, ↓zq_R, zq_S, zq_T, zq_U, zq_V, zq_W, zq_X, zq_Y, zq_Z, zq_0, zq_1, zq_2, zq_3, zq_4, zq_5, ↓zq_6, ↓zq_7, ↓zq_8, ↓zq_9, ↓zq_aa, zq_ab, zq_ac, zq_ad, zq_ae, zq_af, zq_ag, ↓zq_ah, ↓zq_ai, ↓zq_aj, zq_ak, ↓zq_al, ↓zq_am, e_b1, e_b2, x_o1, x_o2, r_F13, r_F14, w1, w2, q, c]
  intro m
  induction m with
  | zero => intro x5 x6 M hv e1 e2 hm h0; exact hend x5 x6 M hv e1 e2 (by omega)
  | succ m ih =>
    intro x5 x6 M hv e1 e2 hm h0
    rcases x_lt x6 (1 + c1 + c2) with ⟨q, q_n⟩ | ⟨q, q_n⟩
    · obtain ⟨⟨a1, a2⟩, a3, a4⟩ := hv.2.2.2.2
      have w1 : e_w (1 + M 192 13) = 1 + c1 := by rw [a_w_id (by omega) (by omega), e1]
      have w2 : e_w (1 + c1 + M 192 14) = 1 + c1 + c2 := by rw [a_w_id (by omega) (by omega), e2]
      have w3 : e_w (x6 + 1) = x6 + 1 := a_w_id (by omega) (by omega)
      obtain ⟨s, M1, k1, b0, b1, b2, b3, b4⟩ := r_fitsBy (k := x6) hv ⟨h0, by omega⟩
      have hgo : ∀ y5, ∃ r M', E_V 253 78 [192, p, d, i, 0, y5, x6] M1 = some (r, M') ∧ r_J M' ∧ a_fr r_wq M M' := by
        intro y5
        obtain ⟨r, M', k, t1, t2⟩ := ih y5 (x6 + 1) M1 b1 (b3.trans e1) (b4.trans e2) (by omega) (by omega)
        refine ⟨r, M', ?_, t1, a_fr_tr b2 t2⟩
        rw [E_V_eq]
        show e_tv E_C (E_V 253) e_t253_78 [192, p, d, i, 0, y5, x6] M1 = _
        unfold e_t253_78
        simp [zq_a, zq_b, zq_c, zq_d, zq_e, zq_f, zq_g, zq_h, zq_i, zq_j, zq_k, zq_l, zq_m, zq_n, zq_o, zq_p, zq_q, zq_r, zq_s, zq_t, zq_u, zq_v, zq_w, zq_x, zq_y, zq_z, zq_A, zq_B, zq_C, zq_D, zq_E, zq_F, zq_G, zq_H, zq_I, zq_J, zq_K, zq_L, ↓zq_M, ↓zq_N, ↓zq_O, ↓zq_P, ↓zq_Q, ↓zq_R, zq_S, zq_T, zq_U, zq_V, zq_W, zq_X, zq_Y, zq_Z, zq_0, zq_1, zq_2, zq_3, zq_4, zq_5, ↓zq_6, ↓zq_7, ↓zq_8, ↓zq_9, ↓zq_aa, zq_ab, zq_ac, zq_ad, zq_ae, zq_af, zq_ag, ↓zq_ah, ↓zq_ai, ↓zq_aj, zq_ak, ↓zq_al, ↓zq_am, e_b1, e_b2, x_o1, x_o2, w3, k]
      rcases b0 with b0 | b0
      · subst b0
        obtain ⟨r, M', k, t⟩ := hgo x5
        refine ⟨r, M', ?_, t⟩
        rw [E_V_eq]
        show e_tv E_C (E_V 253) e_t253_36 [192, p, d, i, 0, x5, x6] M = _
        unfold e_t253_36
        simp [zq_a, zq_b, zq_c, zq_d, zq_e, zq_f, zq_g, zq_h, zq_i, zq_j, zq_k, zq_l, zq_m, zq_n, zq_o, zq_p, zq_q, zq_r, zq_s, zq_t, zq_u, zq_v, zq_w, zq_x, zq_y, zq_z, zq_A, zq_B, zq_C, zq_D, zq_E, zq_F, zq_G, zq_H, zq_I, zq_J, zq_K, zq_L, ↓zq_M, ↓zq_N, ↓zq_O, ↓zq_P, ↓zq_Q, ↓zq_R, zq_S, zq_T, zq_U, zq_V, zq_W, zq_X, zq_Y, zq_Z, zq_0, zq_1, zq_2, zq_3, zq_4, zq_5, ↓zq_6, ↓zq_7, ↓zq_8, ↓zq_9, ↓zq_aa, zq_ab, zq_ac, zq_ad, zq_ae, zq_af, zq_ag, ↓zq_ah, ↓zq_ai, ↓zq_aj, zq_ak, ↓zq_al, ↓zq_am, e_b1, e_b2, x_o1, x_o2, r_F13, r_F14, w1, w2, q, q_n, k1, k]
      · subst b0
        by_cases c : x5 = i
        · refine ⟨x6, M1, ?_, b1.1, b2⟩
          rw [E_V_eq]
          show e_tv E_C (E_V 253) e_t253_36 [192, p, d, i, 0, x5, x6] M = _
          unfold e_t253_36
          simp [zq_a, zq_b, zq_c, zq_d, zq_e, zq_f, zq_g, zq_h, zq_i, zq_j, zq_k, zq_l, zq_m, zq_n, zq_o, zq_p, zq_q, zq_r, zq_s, zq_t, zq_u, zq_v, zq_w, zq_x, zq_y, zq_z, zq_A, zq_B, zq_C, zq_D, zq_E, zq_F, zq_G, zq_H, zq_I, zq_J, zq_K, zq_L, ↓zq_M, ↓zq_N, ↓zq_O, ↓zq_P, ↓zq_Q, ↓zq_R, zq_S, zq_T, zq_U, zq_V, zq_W, zq_X, zq_Y, zq_Z, zq_0, zq_1, zq_2, zq_3, zq_4, zq_5, ↓zq_6, ↓zq_7, ↓zq_8, ↓zq_9, ↓zq_aa, zq_ab, zq_ac, zq_ad, zq_ae, zq_af, zq_ag, ↓zq_ah, ↓zq_ai, ↓zq_aj, zq_ak, ↓zq_al, ↓zq_am, e_b1, e_b2, x_o1, x_o2, r_F13, r_F14, w1, w2, q, q_n, k1, c]
        · obtain ⟨r, M', k, t⟩ := hgo (e_w (x5 + 1))
          refine ⟨r, M', ?_, t⟩
          rw [E_V_eq]
          show e_tv E_C (E_V 253) e_t253_36 [192, p, d, i, 0, x5, x6] M = _
          unfold e_t253_36
          simp [zq_a, zq_b, zq_c, zq_d, zq_e, zq_f, zq_g, zq_h, zq_i, zq_j, zq_k, zq_l, zq_m, zq_n, zq_o, zq_p, zq_q, zq_r, zq_s, zq_t, zq_u, zq_v, zq_w, zq_x, zq_y, zq_z, zq_A, zq_B, zq_C, zq_D, zq_E, zq_F, zq_G, zq_H, zq_I, zq_J, zq_K, zq_L, ↓zq_M, ↓zq_N, ↓zq_O, ↓zq_P, ↓zq_Q, ↓zq_R, zq_S, zq_T, zq_U, zq_V, zq_W, zq_X, zq_Y, zq_Z, zq_0, zq_1, zq_2, zq_3, zq_4, zq_5, ↓zq_6, ↓zq_7, ↓zq_8, ↓zq_9, ↓zq_aa, zq_ab, zq_ac, zq_ad, zq_ae, zq_af, zq_ag, ↓zq_ah, ↓zq_ai, ↓zq_aj, zq_ak, ↓zq_al, ↓zq_am, e_b1, e_b2, x_o1, x_o2, r_F13, r_F14, w1, w2, q, q_n, k1, c, k]
    · exact hend x5 x6 M hv e1 e2 q
theorem r_fv_0 {p d : Int} {M M' : EM} (h : (0 ≤ p ∧ p < r_G M 1198) ∧ (0 ≤ d ∧ d ≤ 7) ∧ M 197 d.toNat ≤ 40) (hJ : r_J M') (hf : a_fr r_wq M M') (hc : r_cd 48 48 M') : r_fv p d M' := ⟨hJ, by rw [r_q_G hf]; exact h.1, h.2.1, by rw [r_q_same hf (by decide)]; exact h.2.2, hc⟩
theorem r_fits {p d i : Int} {M : EM} (hJ : r_J M) : r_Q 253 [192, p, d, i] M := by
  rcases x_lt i (-1) with ⟨q0, q0_n⟩ | ⟨q0, q0_n⟩
  · refine r_same (r := -1) hJ ?_
    rw [r_ent (show e_rok 253 [192, p, d, i] = true from decide_eq_true r_ref)]
    show e_tv E_C (E_V 253) e_t253_0 [192, p, d, i, 0, 0, 0] M = _
    unfold e_t253_0
    simp [zq_a, zq_b, zq_c, zq_d, zq_e, zq_f, zq_g, zq_h, zq_i, zq_j, zq_k, zq_l, zq_m, zq_n, zq_o, zq_p, zq_q, zq_r, zq_s, zq_t, zq_u, zq_v, zq_w, zq_x, zq_y, zq_z, zq_A, zq_B, zq_C, zq_D, zq_E, zq_F, zq_G, zq_H, zq_I, zq_J, zq_K, zq_L, ↓zq_M, ↓zq_N, ↓zq_O, ↓zq_P, ↓zq_Q, ↓zq_R, zq_S, zq_T, zq_U, zq_V, zq_W, zq_X, zq_Y, zq_Z, zq_0, zq_1, zq_2, zq_3, zq_4, zq_5, ↓zq_6, ↓zq_7, ↓zq_8, ↓zq_9, ↓zq_aa, zq_ab, zq_ac, zq_ad, zq_ae, zq_af, zq_ag, ↓zq_ah, ↓zq_ai, ↓zq_aj, zq_ak, ↓zq_al, ↓zq_am, e_b1, e_b2, x_o1, x_o2, q0, q0_n]
  · obtain ⟨n, kn, hn⟩ := r_wrongFits (p := p) (d := d) hJ
    by_cases q : n = 0
    · subst q
      have h := hn rfl
      obtain ⟨M1, k1, t1, t2, t3⟩ := r_gathers hJ h.1
      obtain ⟨r, M', k, u1, u2⟩ := r_fits_loop (i := i) _ 0 0 M1 (r_fv_0 h t1 t2 t3) rfl rfl (Nat.le_refl _) (by decide)
      refine ⟨r, M', ?_, u1.1, a_fr_tr t2 u2, u1.2.2.2.2⟩
      rw [r_ent (show e_rok 253 [192, p, d, i] = true from decide_eq_true r_ref)]
      show e_tv E_C (E_V 253) e_t253_0 [192, p, d, i, 0, 0, 0] M = _
      unfold e_t253_0
      simp [zq_a, zq_b, zq_c, zq_d, zq_e, zq_f, zq_g, zq_h, zq_i, zq_j, zq_k, zq_l, zq_m, zq_n, zq_o, zq_p, zq_q, zq_r, zq_s, zq_t, zq_u, zq_v, zq_w, zq_x, zq_y, zq_z, zq_A, zq_B, zq_C, zq_D, zq_E, zq_F, zq_G, zq_H, zq_I, zq_J, zq_K, zq_L, ↓zq_M, ↓zq_N, ↓zq_O, ↓zq_P, ↓zq_Q, ↓zq_R, zq_S, zq_T, zq_U, zq_V, zq_W, zq_X, zq_Y, zq_Z, zq_0, zq_1, zq_2, zq_3, zq_4, zq_5, ↓zq_6, ↓zq_7, ↓zq_8, ↓zq_9, ↓zq_aa, zq_ab, zq_ac, zq_ad, zq_ae, zq_af, zq_ag, ↓zq_ah, ↓zq_ai, ↓zq_aj, zq_ak, ↓zq_al, ↓zq_am, e_b1, e_b2, x_o1, x_o2, q0, q0_n, kn, k1, k]
    · refine r_same (r := n) hJ ?_
      rw [r_ent (show e_rok 253 [192, p, d, i] = true from decide_eq_true r_ref)]
      show e_tv E_C (E_V 253) e_t253_0 [192, p, d, i, 0, 0, 0] M = _
      unfold e_t253_0
      simp [zq_a, zq_b, zq_c, zq_d, zq_e, zq_f, zq_g, zq_h, zq_i, zq_j, zq_k, zq_l, zq_m, zq_n, zq_o, zq_p, zq_q, zq_r, zq_s, zq_t, zq_u, zq_v, zq_w, zq_x, zq_y, zq_z, zq_A, zq_B, zq_C, zq_D, zq_E, zq_F, zq_G, zq_H, zq_I, zq_J, zq_K, zq_L, ↓zq_M, ↓zq_N, ↓zq_O, ↓zq_P, ↓zq_Q, ↓zq_R, zq_S, zq_T, zq_U, zq_V, zq_W, zq_X, zq_Y, zq_Z, zq_0, zq_1, zq_2, zq_3, zq_4, zq_5, ↓zq_6, ↓zq_7, ↓zq_8, ↓zq_9, ↓zq_aa, zq_ab, zq_ac, zq_ad, zq_ae, zq_af, zq_ag, ↓zq_ah, ↓zq_ai, ↓zq_aj, zq_ak, ↓zq_al, ↓zq_am, e_b1, e_b2, x_o1, x_o2, q0, q0_n, kn, q]
theorem r_ld212 {i : Int} {M : EM} (h0 : 0 ≤ i) (hi : i ≤ 11736) : e_op 60 [212, i] M = some (M 212 i.toNat) := r_rdA (a := 212) (n := 11736) (by decide) (by decide) (by decide +kernel) h0 hi
theorem r_st212 {i v : Int} {M : EM} (h0 : 0 ≤ i) (hi : i ≤ 11736) : e_st 100 [212, i, v] M = some (e_up M 212 i.toNat v) := r_stA (a := 212) (n := 11736) (by decide) (by decide) (by decide +kernel) h0 hi
theorem r_lk_like {p d x5 x6 u x8 a : Int} {n : Int} {M : EM} (hn : n ≤ 97) (hu : 0 ≤ u ∧ u ≤ 120) (ha : 0 ≤ a ∧ a < n) (H : ∀ y8 y10 y11, ∃ r, E_V 254 142 [192, p, d, 0, n, x5, x6, u, y8, a + 1, y10, y11] M = some (r, M)) : ∀ (m : Nat) (x10 x11 : Int), (n - x11).toNat ≤ m → 0 ≤ x11 → ∃ r, E_V 254 155 [192, p, d, 0, n, x5, x6, u, x8, a, x10, x11] M = some (r, M) := by
  have w0 : e_w (a + 1) = a + 1 := a_w_id (by omega) (by omega)
  have hend : ∀ x10 x11, ¬ (x11 < n) → ∃ r, E_V 254 155 [192, p, d, 0, n, x5, x6, u, x8, a, x10, x11] M = some (r, M) := by
    intro x10 x11 q
    rcases x_lt x8 x10 with ⟨c, c_n⟩ | ⟨c, c_n⟩
    · obtain ⟨r, k⟩ := H x10 x10 x11
      refine ⟨r, ?_⟩
      rw [E_V_eq]
      show e_tv E_C (E_V 254) e_t254_155 [192, p, d, 0, n, x5, x6, u, x8, a, x10, x11] M = _
      unfold e_t254_155
      simp [zq_a, zq_b, zq_c, zq_d, zq_e, zq_f, zq_g, zq_h, zq_i, zq_j, zq_k, zq_l, zq_m, zq_n, zq_o, zq_p, zq_q, zq_r, zq_s, zq_t, zq_u, zq_v, zq_w, zq_x, zq_y, zq_z, zq_A, zq_B, zq_C, zq_D, zq_E, zq_F, zq_G, zq_H, zq_I, zq_J, zq_K, zq_L, ↓zq_M, ↓zq_N, ↓zq_O, ↓zq_P, ↓zq_Q, ↓zq_R, zq_S, zq_T, zq_U, zq_V, zq_W, zq_X, zq_Y, zq_Z, zq_0, zq_1, zq_2, zq_3, zq_4, zq_5, ↓zq_6, ↓zq_7, ↓zq_8, ↓zq_9, ↓zq_aa, zq_ab, zq_ac, zq_ad, zq_ae, zq_af, zq_ag, ↓zq_ah, ↓zq_ai, ↓zq_aj, zq_ak, ↓zq_al, ↓zq_am, e_b1, e_b2, x_o1, x_o2, q, c, c_n, w0, k]
    · obtain ⟨r, k⟩ := H x8 x10 x11
      refine ⟨r, ?_⟩
      rw [E_V_eq]
      show e_tv E_C (E_V 254) e_t254_155 [192, p, d, 0, n, x5, x6, u, x8, a, x10, x11] M = _
      unfold e_t254_155
      simp [zq_a, zq_b, zq_c, zq_d, zq_e, zq_f, zq_g, zq_h, zq_i, zq_j, zq_k, zq_l, zq_m, zq_n, zq_o, zq_p, zq_q, zq_r, zq_s, zq_t, zq_u, zq_v, zq_w, zq_x, zq_y, zq_z, zq_A, zq_B, zq_C, zq_D, zq_E, zq_F, zq_G, zq_H, zq_I, zq_J, zq_K, zq_L, ↓zq_M, ↓zq_N, ↓zq_O, ↓zq_P, ↓zq_Q, ↓zq_R, zq_S, zq_T, zq_U, zq_V, zq_W, zq_X, zq_Y, zq_Z, zq_0, zq_1, zq_2, zq_3, zq_4, zq_5, ↓zq_6, ↓zq_7, ↓zq_8, ↓zq_9, ↓zq_aa, zq_ab, zq_ac, zq_ad, zq_ae, zq_af, zq_ag, ↓zq_ah, ↓zq_ai, ↓zq_aj, zq_ak, ↓zq_al, ↓zq_am, e_b1, e_b2, x_o1, x_o2, q, c, c_n, w0, k]
  intro m
  induction m with
  | zero => intro x10 x11 hm h0; exact hend x10 x11 (by omega)
  | succ m ih =>
    intro x10 x11 hm h0
    rcases x_lt x11 n with ⟨q, q_n⟩ | ⟨q, q_n⟩
    · have w1 : e_w (121 * a) = 121 * a := a_w_id (by omega) (by omega)
      have w2 : e_w (121 * a + u) = 121 * a + u := a_w_id (by omega) (by omega)
      have w3 : e_w (121 * x11) = 121 * x11 := a_w_id (by omega) (by omega)
      have w4 : e_w (121 * x11 + u) = 121 * x11 + u := a_w_id (by omega) (by omega)
      have w5 : e_w (x11 + 1) = x11 + 1 := a_w_id (by omega) (by omega)
      have l1 := r_ld212 (i := 121 * a + u) (M := M) (by omega) (by omega)
      have l2 := r_ld212 (i := 121 * x11 + u) (M := M) (by omega) (by omega)
      by_cases c : M 212 (121 * a + u).toNat = M 212 (121 * x11 + u).toNat
      · obtain ⟨r, k⟩ := ih (e_w (x10 + 1)) (x11 + 1) (by omega) (by omega)
        refine ⟨r, ?_⟩
        rw [E_V_eq]
        show e_tv E_C (E_V 254) e_t254_155 [192, p, d, 0, n, x5, x6, u, x8, a, x10, x11] M = _
        unfold e_t254_155
        simp [zq_a, zq_b, zq_c, zq_d, zq_e, zq_f, zq_g, zq_h, zq_i, zq_j, zq_k, zq_l, zq_m, zq_n, zq_o, zq_p, zq_q, zq_r, zq_s, zq_t, zq_u, zq_v, zq_w, zq_x, zq_y, zq_z, zq_A, zq_B, zq_C, zq_D, zq_E, zq_F, zq_G, zq_H, zq_I, zq_J, zq_K, zq_L, ↓zq_M, ↓zq_N, ↓zq_O, ↓zq_P, ↓zq_Q, ↓zq_R, zq_S, zq_T, zq_U, zq_V, zq_W, zq_X, zq_Y, zq_Z, zq_0, zq_1, zq_2, zq_3, zq_4, zq_5, ↓zq_6, ↓zq_7, ↓zq_8, ↓zq_9, ↓zq_aa, zq_ab, zq_ac, zq_ad, zq_ae, zq_af, zq_ag, ↓zq_ah, ↓zq_ai, ↓zq_aj, zq_ak, ↓zq_al, ↓zq_am, e_b1, e_b2, x_o1, x_o2, r_O39, q, q_n, w1, w2, w3, w4, w5, l1, l2, c, k]
      · obtain ⟨r, k⟩ := ih (e_w (x10 + 0)) (x11 + 1) (by omega) (by omega)
        rw [Int.add_zero] at k
        refine ⟨r, ?_⟩
        rw [E_V_eq]
        show e_tv E_C (E_V 254) e_t254_155 [192, p, d, 0, n, x5, x6, u, x8, a, x10, x11] M = _
        unfold e_t254_155
        simp [zq_a, zq_b, zq_c, zq_d, zq_e, zq_f, zq_g, zq_h, zq_i, zq_j, zq_k, zq_l, zq_m, zq_n, zq_o, zq_p, zq_q, zq_r, zq_s, zq_t, zq_u, zq_v, zq_w, zq_x, zq_y, zq_z, zq_A, zq_B, zq_C, zq_D, zq_E, zq_F, zq_G, zq_H, zq_I, zq_J, zq_K, zq_L, ↓zq_M, ↓zq_N, ↓zq_O, ↓zq_P, ↓zq_Q, ↓zq_R, zq_S, zq_T, zq_U, zq_V, zq_W, zq_X, zq_Y, zq_Z, zq_0, zq_1, zq_2, zq_3, zq_4, zq_5, ↓zq_6, ↓zq_7, ↓zq_8, ↓zq_9, ↓zq_aa, zq_ab, zq_ac, zq_ad, zq_ae, zq_af, zq_ag, ↓zq_ah, ↓zq_ai, ↓zq_aj, zq_ak, ↓zq_al, ↓zq_am, e_b1, e_b2, x_o1, x_o2, r_O39, q, q_n, w1, w2, w3, w4, w5, l1, l2, c, k]
    · exact hend x10 x11 q
theorem r_lk_a {p d x5 x6 u : Int} {n : Int} {M : EM} (hn : n ≤ 97) (hu : 0 ≤ u ∧ u ≤ 120) (H : ∀ y5 y6 y8 y9 y10 y11, ∃ r, E_V 254 124 [192, p, d, 0, n, y5, y6, u + 1, y8, y9, y10, y11] M = some (r, M)) : ∀ (m : Nat) (x8 a x10 x11 : Int), (n - a).toNat ≤ m → 0 ≤ a → ∃ r, E_V 254 142 [192, p, d, 0, n, x5, x6, u, x8, a, x10, x11] M = some (r, M) := by
  have w0 : e_w (u + 1) = u + 1 := a_w_id (by omega) (by omega)
  have hend : ∀ x8 a x10 x11, ¬ (a < n) → ∃ r, E_V 254 142 [192, p, d, 0, n, x5, x6, u, x8, a, x10, x11] M = some (r, M) := by
    intro x8 a x10 x11 q
    have hgo : ∀ y5 y6, ∃ r, E_V 254 252 [192, p, d, 0, n, y5, y6, u, x8, a, x10, x11] M = some (r, M) := by
      intro y5 y6
      obtain ⟨r, k⟩ := H y5 y6 x8 a x10 x11
      refine ⟨r, ?_⟩
      rw [E_V_eq]
      show e_tv E_C (E_V 254) e_t254_252 [192, p, d, 0, n, y5, y6, u, x8, a, x10, x11] M = _
      unfold e_t254_252
      simp [zq_a, zq_b, zq_c, zq_d, zq_e, zq_f, zq_g, zq_h, zq_i, zq_j, zq_k, zq_l, zq_m, zq_n, zq_o, zq_p, zq_q, zq_r, zq_s, zq_t, zq_u, zq_v, zq_w, zq_x, zq_y, zq_z, zq_A, zq_B, zq_C, zq_D, zq_E, zq_F, zq_G, zq_H, zq_I, zq_J, zq_K, zq_L, ↓zq_M, ↓zq_N, ↓zq_O, ↓zq_P, ↓zq_Q, ↓zq_R, zq_S, zq_T, zq_U, zq_V, zq_W, zq_X, zq_Y, zq_Z, zq_0, zq_1, zq_2, zq_3, zq_4, zq_5, ↓zq_6, ↓zq_7, ↓zq_8, ↓zq_9, ↓zq_aa, zq_ab, zq_ac, zq_ad, zq_ae, zq_af, zq_ag, ↓zq_ah, ↓zq_ai, ↓zq_aj, zq_ak, ↓zq_al, ↓zq_am, e_b1, e_b2, x_o1, x_o2, w0, k]
    rcases x_le 0 x5 with ⟨c1, c1_n⟩ | ⟨c1, c1_n⟩
    · rcases x_le x6 x8 with ⟨c2, c2_n⟩ | ⟨c2, c2_n⟩
      · obtain ⟨r, k⟩ := hgo x5 x6
        refine ⟨r, ?_⟩
        rw [E_V_eq]
        show e_tv E_C (E_V 254) e_t254_142 [192, p, d, 0, n, x5, x6, u, x8, a, x10, x11] M = _
        unfold e_t254_142
        simp [zq_a, zq_b, zq_c, zq_d, zq_e, zq_f, zq_g, zq_h, zq_i, zq_j, zq_k, zq_l, zq_m, zq_n, zq_o, zq_p, zq_q, zq_r, zq_s, zq_t, zq_u, zq_v, zq_w, zq_x, zq_y, zq_z, zq_A, zq_B, zq_C, zq_D, zq_E, zq_F, zq_G, zq_H, zq_I, zq_J, zq_K, zq_L, ↓zq_M, ↓zq_N, ↓zq_O, ↓zq_P, ↓zq_Q, ↓zq_R, zq_S, zq_T, zq_U, zq_V, zq_W, zq_X, zq_Y, zq_Z, zq_0, zq_1, zq_2, zq_3, zq_4, zq_5, ↓zq_6, ↓zq_7, ↓zq_8, ↓zq_9, ↓zq_aa, zq_ab, zq_ac, zq_ad, zq_ae, zq_af, zq_ag, ↓zq_ah, ↓zq_ai, ↓zq_aj, zq_ak, ↓zq_al, ↓zq_am, e_b1, e_b2, x_o1, x_o2, q, c1, c1_n, c2, c2_n, k]
      · obtain ⟨r, k⟩ := hgo u x8
        refine ⟨r, ?_⟩
        rw [E_V_eq]
        show e_tv E_C (E_V 254) e_t254_142 [192, p, d, 0, n, x5, x6, u, x8, a, x10, x11] M = _
        unfold e_t254_142
        simp [zq_a, zq_b, zq_c, zq_d, zq_e, zq_f, zq_g, zq_h, zq_i, zq_j, zq_k, zq_l, zq_m, zq_n, zq_o, zq_p, zq_q, zq_r, zq_s, zq_t, zq_u, zq_v, zq_w, zq_x, zq_y, zq_z, zq_A, zq_B, zq_C, zq_D, zq_E, zq_F, zq_G, zq_H, zq_I, zq_J, zq_K, zq_L, ↓zq_M, ↓zq_N, ↓zq_O, ↓zq_P, ↓zq_Q, ↓zq_R, zq_S, zq_T, zq_U, zq_V, zq_W, zq_X, zq_Y, zq_Z, zq_0, zq_1, zq_2, zq_3, zq_4, zq_5, ↓zq_6, ↓zq_7, ↓zq_8, ↓zq_9, ↓zq_aa, zq_ab, zq_ac, zq_ad, zq_ae, zq_af, zq_ag, ↓zq_ah, ↓zq_ai, ↓zq_aj, zq_ak, ↓zq_al, ↓zq_am, e_b1, e_b2, x_o1, x_o2, q, c1, c1_n, c2, c2_n, k]
    · obtain ⟨r, k⟩ := hgo u x8
      refine ⟨r, ?_⟩
      rw [E_V_eq]
      show e_tv E_C (E_V 254) e_t254_142 [192, p, d, 0, n, x5, x6, u, x8, a, x10, x11] M = _
      unfold e_t254_142
      simp [zq_a, zq_b, zq_c, zq_d, zq_e, zq_f, zq_g, zq_h, zq_i, zq_j, zq_k, zq_l, zq_m, zq_n, zq_o, zq_p, zq_q, zq_r, zq_s, zq_t, zq_u, zq_v, zq_w, zq_x, zq_y, zq_z, zq_A, zq_B, zq_C, zq_D, zq_E, zq_F, zq_G, zq_H, zq_I, zq_J, zq_K, zq_L, ↓zq_M, ↓zq_N, ↓zq_O, ↓zq_P, ↓zq_Q, ↓zq_R, zq_S, zq_T, zq_U, zq_V, zq_W, zq_X, zq_Y, zq_Z, zq_0, zq_1, zq_2, zq_3, zq_4, zq_5, ↓zq_6, ↓zq_7, ↓zq_8, ↓zq_9, ↓zq_aa, zq_ab, zq_ac, zq_ad, zq_ae, zq_af, zq_ag, ↓zq_ah, ↓zq_ai, ↓zq_aj, zq_ak, ↓zq_al, ↓zq_am, e_b1, e_b2, x_o1, x_o2, q, c1, c1_n, k]
  intro m
  induction m with
  | zero => intro x8 a x10 x11 hm h0; exact hend x8 a x10 x11 (by omega)
  | succ m ih =>
    intro x8 a x10 x11 hm h0
    rcases x_lt a n with ⟨q, q_n⟩ | ⟨q, q_n⟩
    · obtain ⟨r, k⟩ := r_lk_like (p := p) (d := d) (x5 := x5) (x6 := x6) (x8 := x8) hn hu ⟨h0, q⟩ (fun y8 y10 y11 => ih y8 (a + 1) y10 y11 (by omega) (by omega)) _ 0 0 (Nat.le_refl _) (by decide)
      refine ⟨r, ?_⟩
      rw [E_V_eq]
      show e_tv E_C (E_V 254) e_t254_142 [192, p, d, 0, n, x5, x6, u, x8, a, x10, x11] M = _
      unfold e_t254_142
      simp [zq_a, zq_b, zq_c, zq_d, zq_e, zq_f, zq_g, zq_h, zq_i, zq_j, zq_k, zq_l, zq_m, zq_n, zq_o, zq_p, zq_q, zq_r, zq_s, zq_t, zq_u, zq_v, zq_w, zq_x, zq_y, zq_z, zq_A, zq_B, zq_C, zq_D, zq_E, zq_F, zq_G, zq_H, zq_I, zq_J, zq_K, zq_L, ↓zq_M, ↓zq_N, ↓zq_O, ↓zq_P, ↓zq_Q, ↓zq_R, zq_S, zq_T, zq_U, zq_V, zq_W, zq_X, zq_Y, zq_Z, zq_0, zq_1, zq_2, zq_3, zq_4, zq_5, ↓zq_6, ↓zq_7, ↓zq_8, ↓zq_9, ↓zq_aa, zq_ab, zq_ac, zq_ad, zq_ae, zq_af, zq_ag, ↓zq_ah, ↓zq_ai, ↓zq_aj, zq_ak, ↓zq_al, ↓zq_am, e_b1, e_b2, x_o1, x_o2, q, q_n, k]
    · exact hend x8 a x10 x11 q
theorem r_lk_u {p d n : Int} {M : EM} (hn : n ≤ 97) : ∀ (m : Nat) (x5 x6 u x8 x9 x10 x11 : Int), (121 - u).toNat ≤ m → 0 ≤ u → ∃ r, E_V 254 124 [192, p, d, 0, n, x5, x6, u, x8, x9, x10, x11] M = some (r, M) := by
  have hend : ∀ x5 x6 u x8 x9 x10 x11, ¬ (u ≤ 120 ∧ 0 < n) → ∃ r, E_V 254 124 [192, p, d, 0, n, x5, x6, u, x8, x9, x10, x11] M = some (r, M) := by
    intro x5 x6 u x8 x9 x10 x11 q
    refine ⟨x5, ?_⟩
    rcases x_le u 120 with ⟨q0, q0_n⟩ | ⟨q0, q0_n⟩
    · have q1 : ¬ (0 < n) := fun e => q ⟨q0, e⟩
      have q1' : n ≤ 0 := by omega
      rw [E_V_eq]
      show e_tv E_C (E_V 254) e_t254_124 [192, p, d, 0, n, x5, x6, u, x8, x9, x10, x11] M = _
      unfold e_t254_124
      simp [zq_a, zq_b, zq_c, zq_d, zq_e, zq_f, zq_g, zq_h, zq_i, zq_j, zq_k, zq_l, zq_m, zq_n, zq_o, zq_p, zq_q, zq_r, zq_s, zq_t, zq_u, zq_v, zq_w, zq_x, zq_y, zq_z, zq_A, zq_B, zq_C, zq_D, zq_E, zq_F, zq_G, zq_H, zq_I, zq_J, zq_K, zq_L, ↓zq_M, ↓zq_N, ↓zq_O, ↓zq_P, ↓zq_Q, ↓zq_R, zq_S, zq_T, zq_U, zq_V, zq_W, zq_X, zq_Y, zq_Z, zq_0, zq_1, zq_2, zq_3, zq_4, zq_5, ↓zq_6, ↓zq_7, ↓zq_8, ↓zq_9, ↓zq_aa, zq_ab, zq_ac, zq_ad, zq_ae, zq_af, zq_ag, ↓zq_ah, ↓zq_ai, ↓zq_aj, zq_ak, ↓zq_al, ↓zq_am, e_b1, e_b2, x_o1, x_o2, q0, q0_n, q1, q1']
    · rw [E_V_eq]
      show e_tv E_C (E_V 254) e_t254_124 [192, p, d, 0, n, x5, x6, u, x8, x9, x10, x11] M = _
      unfold e_t254_124
      simp [zq_a, zq_b, zq_c, zq_d, zq_e, zq_f, zq_g, zq_h, zq_i, zq_j, zq_k, zq_l, zq_m, zq_n, zq_o, zq_p, zq_q, zq_r, zq_s, zq_t, zq_u, zq_v, zq_w, zq_x, zq_y, zq_z, zq_A, zq_B, zq_C, zq_D, zq_E, zq_F, zq_G, zq_H, zq_I, zq_J, zq_K, zq_L, ↓zq_M, ↓zq_N, ↓zq_O, ↓zq_P, ↓zq_Q, ↓zq_R, zq_S, zq_T, zq_U, zq_V, zq_W, zq_X, zq_Y, zq_Z, zq_0, zq_1, zq_2, zq_3, zq_4, zq_5, ↓zq_6, ↓zq_7, ↓zq_8, ↓zq_9, ↓zq_aa, zq_ab, zq_ac, zq_ad, zq_ae, zq_af, zq_ag, ↓zq_ah, ↓zq_ai, ↓zq_aj, zq_ak, ↓zq_al, ↓zq_am, e_b1, e_b2, x_o1, x_o2, q0, q0_n]
  intro m
  induction m with
  | zero => intro x5 x6 u x8 x9 x10 x11 hm h0; exact hend x5 x6 u x8 x9 x10 x11 (by omega)
  | succ m ih =>
    intro x5 x6 u x8 x9 x10 x11 hm h0
    by_cases q : u ≤ 120 ∧ 0 < n
    · obtain ⟨q0, q1⟩ := q
      have q0' : ¬ (120 < u) := by omega
      have q1' : ¬ (n ≤ 0) := by omega
      obtain ⟨r, k⟩ := r_lk_a (p := p) (d := d) (x5 := x5) (x6 := x6) hn ⟨h0, q0⟩ (fun y5 y6 y8 y9 y10 y11 => ih y5 y6 (u + 1) y8 y9 y10 y11 (by omega) (by omega)) _ 0 0 x10 x11 (Nat.le_refl _) (by decide)
      refine ⟨r, ?_⟩
      rw [E_V_eq]
      show e_tv E_C (E_V 254) e_t254_124 [192, p, d, 0, n, x5, x6, u, x8, x9, x10, x11] M = _
      unfold e_t254_124
      simp [zq_a, zq_b, zq_c, zq_d, zq_e, zq_f, zq_g, zq_h, zq_i, zq_j, zq_k, zq_l, zq_m, zq_n, zq_o, zq_p, zq_q, zq_r, zq_s, zq_t, zq_u, zq_v, zq_w, zq_x, zq_y, zq_z, zq_A, zq_B, zq_C, zq_D, zq_E, zq_F, zq_G, zq_H, zq_I, zq_J, zq_K, zq_L, ↓zq_M, ↓zq_N, ↓zq_O, ↓zq_P, ↓zq_Q, ↓zq_R, zq_S, zq_T, zq_U, zq_V, zq_W, zq_X, zq_Y, zq_Z, zq_0, zq_1, zq_2, zq_3, zq_4, zq_5, ↓zq_6, ↓zq_7, ↓zq_8, ↓zq_9, ↓zq_aa, zq_ab, zq_ac, zq_ad, zq_ae, zq_af, zq_ag, ↓zq_ah, ↓zq_ai, ↓zq_aj, zq_ak, ↓zq_al, ↓zq_am, e_b1, e_b2, x_o1, x_o2, q0, q0', q1, q1', k]
    · exact hend x5 x6 u x8 x9 x10 x11 q
theorem r_lk_copy {p d x5 x7 x8 x9 x10 x11 n : Int} {c1 c2 : Int} (hn : 0 ≤ n ∧ n ≤ 96) (H : ∀ M, r_fv p d M → M 192 13 = c1 → M 192 14 = c2 → ∀ y6, ∃ r M', E_V 254 108 [192, p, d, 0, n + 1, x5, y6, x7, x8, x9, x10, x11] M = some (r, M') ∧ r_J M' ∧ a_fr r_wq M M') : ∀ (m : Nat) (x6 : Int) (M : EM), r_fv p d M → M 192 13 = c1 → M 192 14 = c2 → (121 - x6).toNat ≤ m → 0 ≤ x6 → ∃ r M', E_V 254 72 [192, p, d, 0, n, x5, x6, x7, x8, x9, x10, x11] M = some (r, M') ∧ r_J M' ∧ a_fr r_wq M M' := by
  have w0 : e_w (n + 1) = n + 1 := a_w_id (by omega) (by omega)
  have hend : ∀ x6 M, r_fv p d M → M 192 13 = c1 → M 192 14 = c2 → ¬ (x6 ≤ 120) → ∃ r M', E_V 254 72 [192, p, d, 0, n, x5, x6, x7, x8, x9, x10, x11] M = some (r, M') ∧ r_J M' ∧ a_fr r_wq M M' := by
    intro x6 M hv e1 e2 q
    obtain ⟨r, M', k, t⟩ := H M hv e1 e2 x6
    refine ⟨r, M', ?_, t⟩
    rw [E_V_eq]
    show e_tv E_C (E_V 254) e_t254_72 [192, p, d, 0, n, x5, x6, x7, x8, x9, x10, x11] M = _
    unfold e_t254_72
    simp [zq_a, zq_b, zq_c, zq_d, zq_e, zq_f, zq_g, zq_h, zq_i, zq_j, zq_k, zq_l, zq_m, zq_n, zq_o, zq_p, zq_q, zq_r, zq_s, zq_t, zq_u, zq_v, zq_w, zq_x, zq_y, zq_z, zq_A, zq_B, zq_C, zq_D, zq_E, zq_F, zq_G, zq_H, zq_I, zq_J, zq_K, zq_L, ↓zq_M, ↓zq_N, ↓zq_O, ↓zq_P, ↓zq_Q, ↓zq_R, zq_S, zq_T, zq_U, zq_V, zq_W, zq_X, zq_Y, zq_Z, zq_0, zq_1, zq_2, zq_3, zq_4, zq_5, ↓zq_6, ↓zq_7, ↓zq_8, ↓zq_9, ↓zq_aa, zq_ab, zq_ac, zq_ad, zq_ae, zq_af, zq_ag, ↓zq_ah, ↓zq_ai, ↓zq_aj, zq_ak, ↓zq_al, ↓zq_am, e_b1, e_b2, x_o1, x_o2, q, w0, k]
  intro m
  induction m with
  | zero => intro x6 M hv e1 e2 hm h0; exact hend x6 M hv e1 e2 (by omega)
  | succ m ih =>
    intro x6 M hv e1 e2 hm h0
    rcases x_le x6 120 with ⟨q, q_n⟩ | ⟨q, q_n⟩
    · have w1 : e_w (121 * n) = 121 * n := a_w_id (by omega) (by omega)
      have w2 : e_w (121 * n + x6) = 121 * n + x6 := a_w_id (by omega) (by omega)
      have w3 : e_w (x6 + 1) = x6 + 1 := a_w_id (by omega) (by omega)
      have g1 := r_rd5 (M := M) h0 (by omega)
      have hv1 : -2147483648 ≤ M 205 x6.toNat ∧ M 205 x6.toNat ≤ 2147483647 := c_M32 hv.1.1 (by decide) (by decide +kernel)
      have st := r_st212 (i := 121 * n + x6) (v := M 205 x6.toNat) (M := M) (by omega) (by omega)
      obtain ⟨u1, u2⟩ := r_qarr (a := 212) (n := 11736) (k := (121 * n + x6).toNat) (by decide) (by omega) hv1 hv.1
      have f3 : (e_up M 212 (121 * n + x6).toNat (M 205 x6.toNat)) 192 13 = M 192 13 := c_up_n (fun hc => absurd hc.1 (by decide))
      have f4 : (e_up M 212 (121 * n + x6).toNat (M 205 x6.toNat)) 192 14 = M 192 14 := c_up_n (fun hc => absurd hc.1 (by decide))
      obtain ⟨r, M', k, t1, t2⟩ := ih (x6 + 1) _ (r_fv_to hv u1 u2 f3 f4) (f3.trans e1) (f4.trans e2) (by omega) (by omega)
      refine ⟨r, M', ?_, t1, a_fr_tr u2 t2⟩
      rw [E_V_eq]
      show e_tv E_C (E_V 254) e_t254_72 [192, p, d, 0, n, x5, x6, x7, x8, x9, x10, x11] M = _
      unfold e_t254_72
      simp [zq_a, zq_b, zq_c, zq_d, zq_e, zq_f, zq_g, zq_h, zq_i, zq_j, zq_k, zq_l, zq_m, zq_n, zq_o, zq_p, zq_q, zq_r, zq_s, zq_t, zq_u, zq_v, zq_w, zq_x, zq_y, zq_z, zq_A, zq_B, zq_C, zq_D, zq_E, zq_F, zq_G, zq_H, zq_I, zq_J, zq_K, zq_L, ↓zq_M, ↓zq_N, ↓zq_O, ↓zq_P, ↓zq_Q, ↓zq_R, zq_S, zq_T, zq_U, zq_V, zq_W, zq_X, zq_Y, zq_Z, zq_0, zq_1, zq_2, zq_3, zq_4, zq_5, ↓zq_6, ↓zq_7, ↓zq_8, ↓zq_9, ↓zq_aa, zq_ab, zq_ac, zq_ad, zq_ae, zq_af, zq_ag, ↓zq_ah, ↓zq_ai, ↓zq_aj, zq_ak, ↓zq_al, ↓zq_am, e_b1, e_b2, x_o1, x_o2, r_O25, r_O39, q, q_n, w1, w2, w3, g1, st, k]
    · exact hend x6 M hv e1 e2 q
theorem r_lk_k {p d c1 c2 x7 x8 x9 x10 x11 : Int} : ∀ (m : Nat) (n x5 x6 : Int) (M : EM), r_fv p d M → M 192 13 = c1 → M 192 14 = c2 → (1 + c1 + c2 - x5).toNat ≤ m → 0 ≤ x5 → x5 ≤ 1 + c1 + c2 → 0 ≤ n → n ≤ x5 → ∃ r M', E_V 254 24 [192, p, d, 0, n, x5, x6, x7, x8, x9, x10, x11] M = some (r, M') ∧ r_J M' ∧ a_fr r_wq M M' := by
  have hend : ∀ n x5 x6 M, r_fv p d M → M 192 13 = c1 → M 192 14 = c2 → ¬ (x5 < 1 + c1 + c2) → x5 ≤ 1 + c1 + c2 → n ≤ x5 → ∃ r M', E_V 254 24 [192, p, d, 0, n, x5, x6, x7, x8, x9, x10, x11] M = some (r, M') ∧ r_J M' ∧ a_fr r_wq M M' := by
    intro n x5 x6 M hv e1 e2 q h5 hn
    obtain ⟨⟨a1, a2⟩, a3, a4⟩ := hv.2.2.2.2
    have w1 : e_w (1 + M 192 13) = 1 + c1 := by rw [a_w_id (by omega) (by omega), e1]
    have w2 : e_w (1 + c1 + M 192 14) = 1 + c1 + c2 := by rw [a_w_id (by omega) (by omega), e2]
    obtain ⟨r, k⟩ := r_lk_u (p := p) (d := d) (n := n) (M := M) (by omega) 121 (-4) 0 0 x8 x9 x10 x11 (by decide) (by decide)
    refine ⟨r, M, ?_, hv.1, a_fr_rf⟩
    rw [E_V_eq]
    show e_tv E_C (E_V 254) e_t254_24 [192, p, d, 0, n, x5, x6, x7, x8, x9, x10, x11] M = _
    unfold e_t254_24
    simp [zq_a, zq_b, zq_c, zq_d, zq_e, zq_f, zq_g, zq_h, zq_i, zq_j, zq_k, zq_l, zq_m, zq_n, zq_o, zq_p, zq_q, zq_r, zq_s, zq_t, zq_u, zq_v, zq_w, zq_x, zq_y, zq_z, zq_A, zq_B, zq_C, zq_D, zq_E, zq_F, zq_G, zq_H, zq_I, zq_J, zq_K, zq_L, ↓zq_M, ↓zq_N, ↓zq_O, ↓zq_P, ↓zq_Q, ↓zq_R, zq_S, zq_T, zq_U, zq_V, zq_W, zq_X, zq_Y, zq_Z, zq_0, zq_1, zq_2, zq_3, zq_4, zq_5, ↓zq_6, ↓zq_7, ↓zq_8, ↓zq_9, ↓zq_aa, zq_ab, zq_ac, zq_ad, zq_ae, zq_af, zq_ag, ↓zq_ah, ↓zq_ai, ↓zq_aj, zq_ak, ↓zq_al, ↓zq_am, e_b1, e_b2, x_o1, x_o2, r_F13, r_F14, w1, w2, q, k]
  intro m
  induction m with
  | zero => intro n x5 x6 M hv e1 e2 hm h0 h5 hn0 hn; exact hend n x5 x6 M hv e1 e2 (by omega) h5 hn
  | succ m ih =>
    intro n x5 x6 M hv e1 e2 hm h0 h5 hn0 hn
    rcases x_lt x5 (1 + c1 + c2) with ⟨q, q_n⟩ | ⟨q, q_n⟩
    · obtain ⟨⟨a1, a2⟩, a3, a4⟩ := hv.2.2.2.2
      have w1 : e_w (1 + M 192 13) = 1 + c1 := by rw [a_w_id (by omega) (by omega), e1]
      have w2 : e_w (1 + c1 + M 192 14) = 1 + c1 + c2 := by rw [a_w_id (by omega) (by omega), e2]
      have w3 : e_w (x5 + 1) = x5 + 1 := a_w_id (by omega) (by omega)
      obtain ⟨s, M1, k1, b0, b1, b2, b3, b4⟩ := r_fitsBy (k := x5) hv ⟨h0, by omega⟩
      have hgo : ∀ M2, r_fv p d M2 → M2 192 13 = c1 → M2 192 14 = c2 → ∀ n' y6, 0 ≤ n' → n' ≤ x5 + 1 → ∃ r M', E_V 254 108 [192, p, d, 0, n', x5, y6, x7, x8, x9, x10, x11] M2 = some (r, M') ∧ r_J M' ∧ a_fr r_wq M2 M' := by
        intro M2 hv2 f1 f2 n' y6 hn' hn2
        obtain ⟨r, M', k, t⟩ := ih n' (x5 + 1) y6 M2 hv2 f1 f2 (by omega) (by omega) (by omega) hn' hn2
        refine ⟨r, M', ?_, t⟩
        rw [E_V_eq]
        show e_tv E_C (E_V 254) e_t254_108 [192, p, d, 0, n', x5, y6, x7, x8, x9, x10, x11] M2 = _
        unfold e_t254_108
        simp [zq_a, zq_b, zq_c, zq_d, zq_e, zq_f, zq_g, zq_h, zq_i, zq_j, zq_k, zq_l, zq_m, zq_n, zq_o, zq_p, zq_q, zq_r, zq_s, zq_t, zq_u, zq_v, zq_w, zq_x, zq_y, zq_z, zq_A, zq_B, zq_C, zq_D, zq_E, zq_F, zq_G, zq_H, zq_I, zq_J, zq_K, zq_L, ↓zq_M, ↓zq_N, ↓zq_O, ↓zq_P, ↓zq_Q, ↓zq_R, zq_S, zq_T, zq_U, zq_V, zq_W, zq_X, zq_Y, zq_Z, zq_0, zq_1, zq_2, zq_3, zq_4, zq_5, ↓zq_6, ↓zq_7, ↓zq_8, ↓zq_9, ↓zq_aa, zq_ab, zq_ac, zq_ad, zq_ae, zq_af, zq_ag, ↓zq_ah, ↓zq_ai, ↓zq_aj, zq_ak, ↓zq_al, ↓zq_am, e_b1, e_b2, x_o1, x_o2, w3, k]
      rcases b0 with b0 | b0
      · subst b0
        obtain ⟨r, M', k, t1, t2⟩ := hgo M1 b1 (b3.trans e1) (b4.trans e2) n x6 hn0 (by omega)
        refine ⟨r, M', ?_, t1, a_fr_tr b2 t2⟩
        rw [E_V_eq]
        show e_tv E_C (E_V 254) e_t254_24 [192, p, d, 0, n, x5, x6, x7, x8, x9, x10, x11] M = _
        unfold e_t254_24
        simp [zq_a, zq_b, zq_c, zq_d, zq_e, zq_f, zq_g, zq_h, zq_i, zq_j, zq_k, zq_l, zq_m, zq_n, zq_o, zq_p, zq_q, zq_r, zq_s, zq_t, zq_u, zq_v, zq_w, zq_x, zq_y, zq_z, zq_A, zq_B, zq_C, zq_D, zq_E, zq_F, zq_G, zq_H, zq_I, zq_J, zq_K, zq_L, ↓zq_M, ↓zq_N, ↓zq_O, ↓zq_P, ↓zq_Q, ↓zq_R, zq_S, zq_T, zq_U, zq_V, zq_W, zq_X, zq_Y, zq_Z, zq_0, zq_1, zq_2, zq_3, zq_4, zq_5, ↓zq_6, ↓zq_7, ↓zq_8, ↓zq_9, ↓zq_aa, zq_ab, zq_ac, zq_ad, zq_ae, zq_af, zq_ag, ↓zq_ah, ↓zq_ai, ↓zq_aj, zq_ak, ↓zq_al, ↓zq_am, e_b1, e_b2, x_o1, x_o2, r_F13, r_F14, w1, w2, q, q_n, k1, k]
      · subst b0
        obtain ⟨M2, k2, d1, d2, d3, d4⟩ := r_takesFault (k := x5) b1.1 b1.2.2.2.2 ⟨h0, by rw [b3, b4]; omega⟩
        have v2 := r_fv_to b1 d1 d2 d3 d4
        have hW2 := (r_J_E d1).2.1
        obtain ⟨M3, k3, g⟩ := r_gives (r_J_E d1) hW2.2.1 (r_pt_of hW2 v2.2.1)
        have J3 := r_ev_J d1 g
        have v3 := r_fv_to v2 J3 (r_evq g) (r_ev_same g (by decide) (by decide)) (r_ev_same g (by decide) (by decide))
        obtain ⟨M4, k4, h1, h2, h3, h4⟩ := r_noFault J3
        have v4 := r_fv_to v3 h1 h2 h3 h4
        have q13 : M4 192 13 = c1 := h3.trans ((r_ev_same g (by decide) (by decide)).trans (d3.trans (b3.trans e1)))
        have q14 : M4 192 14 = c2 := h4.trans ((r_ev_same g (by decide) (by decide)).trans (d4.trans (b4.trans e2)))
        obtain ⟨r, M', k, t1, t2⟩ := r_lk_copy (x5 := x5) (x7 := x7) (x8 := x8) (x9 := x9) (x10 := x10) (x11 := x11) (n := n) ⟨hn0, by omega⟩ (fun M5 v5 f1 f2 y6 => hgo M5 v5 f1 f2 (n + 1) y6 (by omega) (by omega)) 121 0 M4 v4 q13 q14 (by decide) (by decide)
        refine ⟨r, M', ?_, t1, a_fr_tr b2 (a_fr_tr d2 (a_fr_tr (r_evq g) (a_fr_tr h2 t2)))⟩
        rw [E_V_eq]
        show e_tv E_C (E_V 254) e_t254_24 [192, p, d, 0, n, x5, x6, x7, x8, x9, x10, x11] M = _
        unfold e_t254_24
        simp [zq_a, zq_b, zq_c, zq_d, zq_e, zq_f, zq_g, zq_h, zq_i, zq_j, zq_k, zq_l, zq_m, zq_n, zq_o, zq_p, zq_q, zq_r, zq_s, zq_t, zq_u, zq_v, zq_w, zq_x, zq_y, zq_z, zq_A, zq_B, zq_C, zq_D, zq_E, zq_F, zq_G, zq_H, zq_I, zq_J, zq_K, zq_L, ↓zq_M, ↓zq_N, ↓zq_O, ↓zq_P, ↓zq_Q, ↓zq_R, zq_S, zq_T, zq_U, zq_V, zq_W, zq_X, zq_Y, zq_Z, zq_0, zq_1, zq_2, zq_3, zq_4, zq_5, ↓zq_6, ↓zq_7, ↓zq_8, ↓zq_9, ↓zq_aa, zq_ab, zq_ac, zq_ad, zq_ae, zq_af, zq_ag, ↓zq_ah, ↓zq_ai, ↓zq_aj, zq_ak, ↓zq_al, ↓zq_am, e_b1, e_b2, x_o1, x_o2, r_F13, r_F14, w1, w2, q, q_n, k1, k2, k3, k4, k]
    · exact hend n x5 x6 M hv e1 e2 q h5 hn
theorem r_look {p d : Int} {M : EM} (hJ : r_J M) : r_Q 254 [192, p, d] M := by
  obtain ⟨n, kn, hn⟩ := r_wrongFits (p := p) (d := d) hJ
  by_cases q : n = 0
  · subst q
    have h := hn rfl
    obtain ⟨M1, k1, t1, t2, t3⟩ := r_gathers hJ h.1
    obtain ⟨r, M', k, u1, u2⟩ := r_lk_k (x7 := 0) (x8 := 0) (x9 := 0) (x10 := 0) (x11 := 0) _ 0 0 0 M1 (r_fv_0 h t1 t2 t3) rfl rfl (Nat.le_refl _) (by decide) (by have := t3.1.1; have := t3.2.1; omega) (by decide) (by decide)
    refine ⟨r, M', ?_, u1.1, a_fr_tr t2 u2, u1.2.2.2.2⟩
    rw [r_ent (show e_rok 254 [192, p, d] = true from decide_eq_true r_ref)]
    show e_tv E_C (E_V 254) e_t254_0 [192, p, d, 0, 0, 0, 0, 0, 0, 0, 0, 0] M = _
    unfold e_t254_0
    simp [zq_a, zq_b, zq_c, zq_d, zq_e, zq_f, zq_g, zq_h, zq_i, zq_j, zq_k, zq_l, zq_m, zq_n, zq_o, zq_p, zq_q, zq_r, zq_s, zq_t, zq_u, zq_v, zq_w, zq_x, zq_y, zq_z, zq_A, zq_B, zq_C, zq_D, zq_E, zq_F, zq_G, zq_H, zq_I, zq_J, zq_K, zq_L, ↓zq_M, ↓zq_N, ↓zq_O, ↓zq_P, ↓zq_Q, ↓zq_R, zq_S, zq_T, zq_U, zq_V, zq_W, zq_X, zq_Y, zq_Z, zq_0, zq_1, zq_2, zq_3, zq_4, zq_5, ↓zq_6, ↓zq_7, ↓zq_8, ↓zq_9, ↓zq_aa, zq_ab, zq_ac, zq_ad, zq_ae, zq_af, zq_ag, ↓zq_ah, ↓zq_ai, ↓zq_aj, zq_ak, ↓zq_al, ↓zq_am, e_b1, e_b2, x_o1, x_o2, kn, k1, k]
  · refine r_same (r := n) hJ ?_
    rw [r_ent (show e_rok 254 [192, p, d] = true from decide_eq_true r_ref)]
    show e_tv E_C (E_V 254) e_t254_0 [192, p, d, 0, 0, 0, 0, 0, 0, 0, 0, 0] M = _
    unfold e_t254_0
    simp [zq_a, zq_b, zq_c, zq_d, zq_e, zq_f, zq_g, zq_h, zq_i, zq_j, zq_k, zq_l, zq_m, zq_n, zq_o, zq_p, zq_q, zq_r, zq_s, zq_t, zq_u, zq_v, zq_w, zq_x, zq_y, zq_z, zq_A, zq_B, zq_C, zq_D, zq_E, zq_F, zq_G, zq_H, zq_I, zq_J, zq_K, zq_L, ↓zq_M, ↓zq_N, ↓zq_O, ↓zq_P, ↓zq_Q, ↓zq_R, zq_S, zq_T, zq_U, zq_V, zq_W, zq_X, zq_Y, zq_Z, zq_0, zq_1, zq_2, zq_3, zq_4, zq_5, ↓zq_6, ↓zq_7, ↓zq_8, ↓zq_9, ↓zq_aa, zq_ab, zq_ac, zq_ad, zq_ae, zq_af, zq_ag, ↓zq_ah, ↓zq_ai, ↓zq_aj, zq_ak, ↓zq_al, ↓zq_am, e_b1, e_b2, x_o1, x_o2, kn, q]
