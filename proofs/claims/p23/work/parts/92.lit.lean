section
theorem r_lit_in {p h x3 hi : Int} {M : EM} (hM : a_M M) (hh : 0 ≤ h ∧ h ≤ 11) {x6 : Int} (h6 : 0 ≤ x6 ∧ x6 ≤ 19) (hx3 : 0 ≤ x3 ∧ x3 ≤ 1112) (hi1 : r_G M (x3 + 4) = hi) (hhi : 0 ≤ hi ∧ hi ≤ 11) (H : ∀ x4 x5 x7, 0 < x4 → x4 ≤ 12 * (x6 + 1) → ∃ r, E_V 223 36 [192, p, h, x3, x4, x5, x6 + 1, x7] M = some (r, M) ∧ -2147483648 ≤ r ∧ r ≤ 2147483647) : ∀ (m : Nat) (x4 x5 x7 : Int), (hi + 1 - x7).toNat ≤ m → 0 ≤ x7 → x7 ≤ 12 → 0 ≤ x4 → x4 ≤ 12 * x6 + x7 → (0 < x4 ∨ x7 ≤ hi) → ∃ r, E_V 223 59 [192, p, h, x3, x4, x5, x6, x7] M = some (r, M) ∧ -2147483648 ≤ r ∧ r ≤ 2147483647 := by
  have w1 : e_w (x3 + 4) = x3 + 4 := a_w_id (by omega) (by omega)
  have w2 : e_w (x6 + 1) = x6 + 1 := a_w_id (by omega) (by omega)
  have l1 : e_op 60 [193, x3 + 4] M = some hi := (r_rd (by omega) (by omega)).trans (congrArg some hi1)
  have hend : ∀ x4 x5 x7, ¬ (x7 ≤ hi) → 0 < x4 → x7 ≤ 12 → x4 ≤ 12 * x6 + x7 → ∃ r, E_V 223 59 [192, p, h, x3, x4, x5, x6, x7] M = some (r, M) ∧ -2147483648 ≤ r ∧ r ≤ 2147483647 := by
    intro x4 x5 x7 q q4 q7 q5
    obtain ⟨r, k, hr⟩ := H x4 x5 x7 q4 (by omega)
    refine ⟨r, ?_, hr⟩
    rw [E_V_eq]
    show e_tv E_C (E_V 223) e_t223_59 [192, p, h, x3, x4, x5, x6, x7] M = _
    unfold e_t223_59
    simp [zq_a, zq_b, zq_c, zq_d, zq_e, zq_f, zq_g, zq_h, zq_i, zq_j, zq_k, zq_l, zq_m, zq_n, zq_o, zq_p, zq_q, zq_r, zq_s, zq_t, zq_u, zq_v, zq_w, zq_x, zq_y, zq_z, zq_A, zq_B, zq_C, zq_D, zq_E, zq_F, zq_G, zq_H, zq_I, zq_J, zq_K, zq_L, ↓zq_M, ↓zq_N, ↓zq_O, ↓zq_P, ↓zq_Q, ↓zq_R, zq_S, zq_T, zq_U, zq_V, zq_W, zq_X, zq_Y, zq_Z, zq_0, zq_1, zq_2, zq_3, zq_4, zq_5, ↓zq_6, ↓zq_7, ↓zq_8, ↓zq_9, ↓zq_aa, zq_ab, zq_ac, zq_ad, zq_ae, zq_af, zq_ag, ↓zq_ah, ↓zq_ai, ↓zq_aj, zq_ak, ↓zq_al, ↓zq_am, e_b1, e_b2, x_o1, x_o2, q, r_O0, w1, w2, l1, k]
  intro m
  induction m with
  | zero => intro x4 x5 x7 hm h0 h1 h2 h3 h4; exact hend x4 x5 x7 (by omega) (by omega) h1 h3
  | succ m ih =>
    intro x4 x5 x7 hm h0 h1 h2 h3 h4
    rcases x_le x7 hi with ⟨q, q_n⟩ | ⟨q, q_n⟩
    · have w3 : e_w (x4 + 1) = x4 + 1 := a_w_id (by omega) (by omega)
      have w4 : e_w (x7 + 1) = x7 + 1 := a_w_id (by omega) (by omega)
      obtain ⟨s, ks, hs⟩ := r_isShaded (x := x6) (y := x7) hM hh
      obtain ⟨r, k, hr⟩ := ih (x4 + 1) (e_w (x5 + (if s = 0 then 1 else 0))) (x7 + 1) (by omega) (by omega) (by omega) (by omega) (by omega) (by omega)
      refine ⟨r, ?_, hr⟩
      rw [E_V_eq]
      show e_tv E_C (E_V 223) e_t223_59 [192, p, h, x3, x4, x5, x6, x7] M = _
      unfold e_t223_59
      rcases hs with hs | hs <;> subst hs
      · simp at k
        simp [zq_a, zq_b, zq_c, zq_d, zq_e, zq_f, zq_g, zq_h, zq_i, zq_j, zq_k, zq_l, zq_m, zq_n, zq_o, zq_p, zq_q, zq_r, zq_s, zq_t, zq_u, zq_v, zq_w, zq_x, zq_y, zq_z, zq_A, zq_B, zq_C, zq_D, zq_E, zq_F, zq_G, zq_H, zq_I, zq_J, zq_K, zq_L, ↓zq_M, ↓zq_N, ↓zq_O, ↓zq_P, ↓zq_Q, ↓zq_R, zq_S, zq_T, zq_U, zq_V, zq_W, zq_X, zq_Y, zq_Z, zq_0, zq_1, zq_2, zq_3, zq_4, zq_5, ↓zq_6, ↓zq_7, ↓zq_8, ↓zq_9, ↓zq_aa, zq_ab, zq_ac, zq_ad, zq_ae, zq_af, zq_ag, ↓zq_ah, ↓zq_ai, ↓zq_aj, zq_ak, ↓zq_al, ↓zq_am, e_b1, e_b2, x_o1, x_o2, q, q_n, r_O0, w1, w3, w4, l1, ks, k]
      · simp at k
        simp [zq_a, zq_b, zq_c, zq_d, zq_e, zq_f, zq_g, zq_h, zq_i, zq_j, zq_k, zq_l, zq_m, zq_n, zq_o, zq_p, zq_q, zq_r, zq_s, zq_t, zq_u, zq_v, zq_w, zq_x, zq_y, zq_z, zq_A, zq_B, zq_C, zq_D, zq_E, zq_F, zq_G, zq_H, zq_I, zq_J, zq_K, zq_L, ↓zq_M, ↓zq_N, ↓zq_O, ↓zq_P, ↓zq_Q, ↓zq_R, zq_S, zq_T, zq_U, zq_V, zq_W, zq_X, zq_Y, zq_Z, zq_0, zq_1, zq_2, zq_3, zq_4, zq_5, ↓zq_6, ↓zq_7, ↓zq_8, ↓zq_9, ↓zq_aa, zq_ab, zq_ac, zq_ad, zq_ae, zq_af, zq_ag, ↓zq_ah, ↓zq_ai, ↓zq_aj, zq_ak, ↓zq_al, ↓zq_am, e_b1, e_b2, x_o1, x_o2, q, q_n, r_O0, w1, w3, w4, l1, ks, k]
    · exact hend x4 x5 x7 q (by omega) h1 h3
theorem r_lit_out {p h x3 xhi ylo hi : Int} {M : EM} (hM : a_M M) (hh : 0 ≤ h ∧ h ≤ 11) (hx3 : 0 ≤ x3 ∧ x3 ≤ 1112) (i3 : r_G M (x3 + 3) = xhi) (i2 : r_G M (x3 + 2) = ylo) (i4 : r_G M (x3 + 4) = hi) (h3 : xhi ≤ 19) (h2 : 0 ≤ ylo ∧ ylo ≤ hi ∧ hi ≤ 11) : ∀ (m : Nat) (x4 x5 x6 x7 : Int), (xhi + 1 - x6).toNat ≤ m → 0 ≤ x6 → x6 ≤ 20 → 0 ≤ x4 → x4 ≤ 12 * x6 → (0 < x4 ∨ x6 ≤ xhi) → ∃ r, E_V 223 36 [192, p, h, x3, x4, x5, x6, x7] M = some (r, M) ∧ -2147483648 ≤ r ∧ r ≤ 2147483647 := by
  have w1 : e_w (x3 + 3) = x3 + 3 := a_w_id (by omega) (by omega)
  have w2 : e_w (x3 + 2) = x3 + 2 := a_w_id (by omega) (by omega)
  have l1 : e_op 60 [193, x3 + 3] M = some xhi := (r_rd (by omega) (by omega)).trans (congrArg some i3)
  have l2 : e_op 60 [193, x3 + 2] M = some ylo := (r_rd (by omega) (by omega)).trans (congrArg some i2)
  have hend : ∀ x4 x5 x6 x7, ¬ (x6 ≤ xhi) → 0 < x4 → ∃ r, E_V 223 36 [192, p, h, x3, x4, x5, x6, x7] M = some (r, M) ∧ -2147483648 ≤ r ∧ r ≤ 2147483647 := by
    intro x4 x5 x6 x7 q q4
    have q4' : x4 ≠ 0 := by omega
    refine ⟨e_w ((e_w (100 * x5)).tdiv x4), ?_, a_w _⟩
    rw [E_V_eq]
    show e_tv E_C (E_V 223) e_t223_36 [192, p, h, x3, x4, x5, x6, x7] M = _
    unfold e_t223_36
    simp [zq_a, zq_b, zq_c, zq_d, zq_e, zq_f, zq_g, zq_h, zq_i, zq_j, zq_k, zq_l, zq_m, zq_n, zq_o, zq_p, zq_q, zq_r, zq_s, zq_t, zq_u, zq_v, zq_w, zq_x, zq_y, zq_z, zq_A, zq_B, zq_C, zq_D, zq_E, zq_F, zq_G, zq_H, zq_I, zq_J, zq_K, zq_L, ↓zq_M, ↓zq_N, ↓zq_O, ↓zq_P, ↓zq_Q, ↓zq_R, zq_S, zq_T, zq_U, zq_V, zq_W, zq_X, zq_Y, zq_Z, zq_0, zq_1, zq_2, zq_3, zq_4, zq_5, ↓zq_6, ↓zq_7, ↓zq_8, ↓zq_9, ↓zq_aa, zq_ab, zq_ac, zq_ad, zq_ae, zq_af, zq_ag, ↓zq_ah, ↓zq_ai, ↓zq_aj, zq_ak, ↓zq_al, ↓zq_am, e_b1, e_b2, x_o1, x_o2, q, q4', r_O0, w1, l1]
  intro m
  induction m with
  | zero => intro x4 x5 x6 x7 hm h0 h1 h4 h5 h6; exact hend x4 x5 x6 x7 (by omega) (by omega)
  | succ m ih =>
    intro x4 x5 x6 x7 hm h0 h1 h4 h5 h6
    rcases x_le x6 xhi with ⟨q, q_n⟩ | ⟨q, q_n⟩
    · obtain ⟨r, k, hr⟩ := r_lit_in (p := p) hM hh ⟨h0, by omega⟩ hx3 i4 ⟨by omega, by omega⟩ (fun x4 x5 x7 q4 q5 => ih x4 x5 (x6 + 1) x7 (by omega) (by omega) (by omega) (by omega) (by omega) (by omega)) _ x4 x5 ylo (Nat.le_refl _) (by omega) (by omega) h4 (by omega) (Or.inr h2.2.1)
      refine ⟨r, ?_, hr⟩
      rw [E_V_eq]
      show e_tv E_C (E_V 223) e_t223_36 [192, p, h, x3, x4, x5, x6, x7] M = _
      unfold e_t223_36
      simp [zq_a, zq_b, zq_c, zq_d, zq_e, zq_f, zq_g, zq_h, zq_i, zq_j, zq_k, zq_l, zq_m, zq_n, zq_o, zq_p, zq_q, zq_r, zq_s, zq_t, zq_u, zq_v, zq_w, zq_x, zq_y, zq_z, zq_A, zq_B, zq_C, zq_D, zq_E, zq_F, zq_G, zq_H, zq_I, zq_J, zq_K, zq_L, ↓zq_M, ↓zq_N, ↓zq_O, ↓zq_P, ↓zq_Q, ↓zq_R, zq_S, zq_T, zq_U, zq_V, zq_W, zq_X, zq_Y, zq_Z, zq_0, zq_1, zq_2, zq_3, zq_4, zq_5, ↓zq_6, ↓zq_7, ↓zq_8, ↓zq_9, ↓zq_aa, zq_ab, zq_ac, zq_ad, zq_ae, zq_af, zq_ag, ↓zq_ah, ↓zq_ai, ↓zq_aj, zq_ak, ↓zq_al, ↓zq_am, e_b1, e_b2, x_o1, x_o2, q, q_n, r_O0, w1, w2, l1, l2, k]
    · exact hend x4 x5 x6 x7 q (by omega)
theorem r_litOf {p h : Int} {M : EM} (hM : a_M M) (hh : 0 ≤ h ∧ h ≤ 11) (hp : 0 ≤ p ∧ p < 40) (hl : r_lies (r_G M) p) : ∃ r, E_C 223 [192, p, h] M = some (r, M) ∧ -2147483648 ≤ r ∧ r ≤ 2147483647 := by
  have w1 : e_w (28 * p) = 28 * p := a_w_id (by omega) (by omega)
  have w2 : e_w (28 * p + 20) = 28 * p + 20 := a_w_id (by omega) (by omega)
  have w3 : e_w (28 * p + 20 + 1) = 28 * p + 20 + 1 := a_w_id (by omega) (by omega)
  have l0 : e_op 60 [193, 28 * p + 20] M = some (r_G M (28 * p + 20)) := r_rd (by omega) (by omega)
  have l1 : e_op 60 [193, 28 * p + 20 + 1] M = some (r_G M (28 * p + 20 + 1)) := r_rd (by omega) (by omega)
  by_cases q : r_G M (28 * p + 20) = 0
  · refine ⟨100, ?_, by decide, by decide⟩
    rw [r_ent (show e_rok 223 [192, p, h] = true from decide_eq_true r_ref)]
    show e_tv E_C (E_V 223) e_t223_0 [192, p, h, 0, 0, 0, 0, 0] M = _
    unfold e_t223_0
    simp [zq_a, zq_b, zq_c, zq_d, zq_e, zq_f, zq_g, zq_h, zq_i, zq_j, zq_k, zq_l, zq_m, zq_n, zq_o, zq_p, zq_q, zq_r, zq_s, zq_t, zq_u, zq_v, zq_w, zq_x, zq_y, zq_z, zq_A, zq_B, zq_C, zq_D, zq_E, zq_F, zq_G, zq_H, zq_I, zq_J, zq_K, zq_L, ↓zq_M, ↓zq_N, ↓zq_O, ↓zq_P, ↓zq_Q, ↓zq_R, zq_S, zq_T, zq_U, zq_V, zq_W, zq_X, zq_Y, zq_Z, zq_0, zq_1, zq_2, zq_3, zq_4, zq_5, ↓zq_6, ↓zq_7, ↓zq_8, ↓zq_9, ↓zq_aa, zq_ab, zq_ac, zq_ad, zq_ae, zq_af, zq_ag, ↓zq_ah, ↓zq_ai, ↓zq_aj, zq_ak, ↓zq_al, ↓zq_am, e_b1, e_b2, x_o1, x_o2, r_O0, w1, w2, l0, q]
  · obtain ⟨a1, a2, a3, a4, a5, a6⟩ := hl.resolve_left q
    have e1 : 28 * p + 20 + 1 = 28 * p + 21 := by omega
    have e2 : 28 * p + 20 + 2 = 28 * p + 22 := by omega
    have e3 : 28 * p + 20 + 3 = 28 * p + 23 := by omega
    have e4 : 28 * p + 20 + 4 = 28 * p + 24 := by omega
    obtain ⟨r, k, hr⟩ := r_lit_out (p := p) (x3 := 28 * p + 20) hM hh ⟨by omega, by omega⟩ rfl rfl rfl (by rw [e3]; exact a3) (by rw [e2, e4]; exact ⟨a4, a5, a6⟩) _ 0 0 (r_G M (28 * p + 20 + 1)) 0 (Nat.le_refl _) (by rw [e1]; omega) (by rw [e1]; omega) (by decide) (by rw [e1]; omega) (Or.inr (by rw [e1, e3]; exact a2))
    refine ⟨r, ?_, hr⟩
    rw [r_ent (show e_rok 223 [192, p, h] = true from decide_eq_true r_ref)]
    show e_tv E_C (E_V 223) e_t223_0 [192, p, h, 0, 0, 0, 0, 0] M = _
    unfold e_t223_0
    simp [zq_a, zq_b, zq_c, zq_d, zq_e, zq_f, zq_g, zq_h, zq_i, zq_j, zq_k, zq_l, zq_m, zq_n, zq_o, zq_p, zq_q, zq_r, zq_s, zq_t, zq_u, zq_v, zq_w, zq_x, zq_y, zq_z, zq_A, zq_B, zq_C, zq_D, zq_E, zq_F, zq_G, zq_H, zq_I, zq_J, zq_K, zq_L, ↓zq_M, ↓zq_N, ↓zq_O, ↓zq_P, ↓zq_Q, ↓zq_R, zq_S, zq_T, zq_U, zq_V, zq_W, zq_X, zq_Y, zq_Z, zq_0, zq_1, zq_2, zq_3, zq_4, zq_5, ↓zq_6, ↓zq_7, ↓zq_8, ↓zq_9, ↓zq_aa, zq_ab, zq_ac, zq_ad, zq_ae, zq_af, zq_ag, ↓zq_ah, ↓zq_ai, ↓zq_aj, zq_ak, ↓zq_al, ↓zq_am, e_b1, e_b2, x_o1, x_o2, r_O0, w1, w2, w3, l0, l1, q, k]
end
section
/-! SHARE, PUSH and CURRENT of CELLS and ROWS of the reference -/
def r_P (u : Nat) (as : List Int) (M : EM) : Prop := ∃ r, E_C u as M = some (r, M) ∧ -2147483648 ≤ r ∧ r ≤ 2147483647
theorem r_share {p : Int} {M : EM} (hE : r_E M) (hp : 0 ≤ p ∧ p < 40) (hl : r_lies (r_G M) p) : r_P 192 [192, p] M := by
  obtain ⟨hM, hW, hh⟩ := hE
  have w1 : e_w (28 * p) = 28 * p := a_w_id (by omega) (by omega)
  have w2 : e_w (28 * p + 15) = 28 * p + 15 := a_w_id (by omega) (by omega)
  have w3 : e_w (28 * p + 15 + 4) = 28 * p + 15 + 4 := a_w_id (by omega) (by omega)
  have w4 : e_w (28 * p + 15 + 1) = 28 * p + 15 + 1 := a_w_id (by omega) (by omega)
  have w5 : e_w (28 * p + 15 + 2) = 28 * p + 15 + 2 := a_w_id (by omega) (by omega)
  have l0 : e_op 60 [193, 28 * p + 15] M = some (r_G M (28 * p + 15)) := r_rd (by omega) (by omega)
  have l1 : e_op 60 [193, 28 * p + 15 + 4] M = some (r_G M (28 * p + 15 + 4)) := r_rd (by omega) (by omega)
  have l2 : e_op 60 [193, 28 * p + 15 + 1] M = some (r_G M (28 * p + 15 + 1)) := r_rd (by omega) (by omega)
  have l3 : e_op 60 [193, 28 * p + 15 + 2] M = some (r_G M (28 * p + 15 + 2)) := r_rd (by omega) (by omega)
  unfold r_P
  suffices hs : E_C 192 [192, p] M = some (0, M) ∨ ∃ a b c, E_C 192 [192, p] M = some (e_w ((e_w (e_w (a * e_w (100 - b)) * e_w (100 - c))).tdiv 10000), M) by
    rcases hs with hs | ⟨a, b, c, hs⟩
    · exact ⟨0, hs, by decide, by decide⟩
    · exact ⟨_, hs, a_w _⟩
  by_cases c0 : r_G M (28 * p + 15 + 4) = 1
  · refine Or.inl ?_
    rw [r_ent (show e_rok 192 [192, p] = true from decide_eq_true r_ref)]
    show e_tv E_C (E_V 192) e_t192_0 [192, p, 0, 0, 0, 0] M = _
    unfold e_t192_0
    simp [zq_a, zq_b, zq_c, zq_d, zq_e, zq_f, zq_g, zq_h, zq_i, zq_j, zq_k, zq_l, zq_m, zq_n, zq_o, zq_p, zq_q, zq_r, zq_s, zq_t, zq_u, zq_v, zq_w, zq_x, zq_y, zq_z, zq_A, zq_B, zq_C, zq_D, zq_E, zq_F, zq_G, zq_H, zq_I, zq_J, zq_K, zq_L, ↓zq_M, ↓zq_N, ↓zq_O, ↓zq_P, ↓zq_Q, ↓zq_R, zq_S, zq_T, zq_U, zq_V, zq_W, zq_X, zq_Y, zq_Z, zq_0, zq_1, zq_2, zq_3, zq_4, zq_5, ↓zq_6, ↓zq_7, ↓zq_8, ↓zq_9, ↓zq_aa, zq_ab, zq_ac, zq_ad, zq_ae, zq_af, zq_ag, ↓zq_ah, ↓zq_ai, ↓zq_aj, zq_ak, ↓zq_al, ↓zq_am, e_b1, e_b2, x_o1, x_o2, r_O0, w1, w2, w3, l1, c0]
  · by_cases c1 : M 192 23 = p
    · refine Or.inl ?_
      rw [r_ent (show e_rok 192 [192, p] = true from decide_eq_true r_ref)]
      show e_tv E_C (E_V 192) e_t192_0 [192, p, 0, 0, 0, 0] M = _
      unfold e_t192_0
      simp [zq_a, zq_b, zq_c, zq_d, zq_e, zq_f, zq_g, zq_h, zq_i, zq_j, zq_k, zq_l, zq_m, zq_n, zq_o, zq_p, zq_q, zq_r, zq_s, zq_t, zq_u, zq_v, zq_w, zq_x, zq_y, zq_z, zq_A, zq_B, zq_C, zq_D, zq_E, zq_F, zq_G, zq_H, zq_I, zq_J, zq_K, zq_L, ↓zq_M, ↓zq_N, ↓zq_O, ↓zq_P, ↓zq_Q, ↓zq_R, zq_S, zq_T, zq_U, zq_V, zq_W, zq_X, zq_Y, zq_Z, zq_0, zq_1, zq_2, zq_3, zq_4, zq_5, ↓zq_6, ↓zq_7, ↓zq_8, ↓zq_9, ↓zq_aa, zq_ab, zq_ac, zq_ad, zq_ae, zq_af, zq_ag, ↓zq_ah, ↓zq_ai, ↓zq_aj, zq_ak, ↓zq_al, ↓zq_am, e_b1, e_b2, x_o1, x_o2, r_O0, r_F23, w1, w2, w3, l1, c0, c1]
    · refine Or.inr ?_
      by_cases c2 : e_bit (fun x y => x &&& y) (M 192 22) 1 = 1
      · by_cases c4 : e_bit (fun x y => x &&& y) (M 192 22) 2 = 2
        · by_cases c5 : e_bit (fun x y => x &&& y) (M 192 22) 4 = 4
          · refine ⟨100, 0, 0, ?_⟩
            rw [r_ent (show e_rok 192 [192, p] = true from decide_eq_true r_ref)]
            show e_tv E_C (E_V 192) e_t192_0 [192, p, 0, 0, 0, 0] M = _
            unfold e_t192_0
            simp [zq_a, zq_b, zq_c, zq_d, zq_e, zq_f, zq_g, zq_h, zq_i, zq_j, zq_k, zq_l, zq_m, zq_n, zq_o, zq_p, zq_q, zq_r, zq_s, zq_t, zq_u, zq_v, zq_w, zq_x, zq_y, zq_z, zq_A, zq_B, zq_C, zq_D, zq_E, zq_F, zq_G, zq_H, zq_I, zq_J, zq_K, zq_L, ↓zq_M, ↓zq_N, ↓zq_O, ↓zq_P, ↓zq_Q, ↓zq_R, zq_S, zq_T, zq_U, zq_V, zq_W, zq_X, zq_Y, zq_Z, zq_0, zq_1, zq_2, zq_3, zq_4, zq_5, ↓zq_6, ↓zq_7, ↓zq_8, ↓zq_9, ↓zq_aa, zq_ab, zq_ac, zq_ad, zq_ae, zq_af, zq_ag, ↓zq_ah, ↓zq_ai, ↓zq_aj, zq_ak, ↓zq_al, ↓zq_am, e_b1, e_b2, x_o1, x_o2, r_O0, r_F20, r_F21, r_F22, r_F23, w1, w2, w3, w4, w5, l0, l1, l2, l3, c0, c1, c2, c4, c5]
          · refine ⟨100, 0, r_G M (28 * p + 15 + 2), ?_⟩
            rw [r_ent (show e_rok 192 [192, p] = true from decide_eq_true r_ref)]
            show e_tv E_C (E_V 192) e_t192_0 [192, p, 0, 0, 0, 0] M = _
            unfold e_t192_0
            simp [zq_a, zq_b, zq_c, zq_d, zq_e, zq_f, zq_g, zq_h, zq_i, zq_j, zq_k, zq_l, zq_m, zq_n, zq_o, zq_p, zq_q, zq_r, zq_s, zq_t, zq_u, zq_v, zq_w, zq_x, zq_y, zq_z, zq_A, zq_B, zq_C, zq_D, zq_E, zq_F, zq_G, zq_H, zq_I, zq_J, zq_K, zq_L, ↓zq_M, ↓zq_N, ↓zq_O, ↓zq_P, ↓zq_Q, ↓zq_R, zq_S, zq_T, zq_U, zq_V, zq_W, zq_X, zq_Y, zq_Z, zq_0, zq_1, zq_2, zq_3, zq_4, zq_5, ↓zq_6, ↓zq_7, ↓zq_8, ↓zq_9, ↓zq_aa, zq_ab, zq_ac, zq_ad, zq_ae, zq_af, zq_ag, ↓zq_ah, ↓zq_ai, ↓zq_aj, zq_ak, ↓zq_al, ↓zq_am, e_b1, e_b2, x_o1, x_o2, r_O0, r_F20, r_F21, r_F22, r_F23, w1, w2, w3, w4, w5, l0, l1, l2, l3, c0, c1, c2, c4, c5]
        · by_cases c5 : e_bit (fun x y => x &&& y) (M 192 22) 4 = 4
          · refine ⟨100, r_G M (28 * p + 15 + 1), 0, ?_⟩
            rw [r_ent (show e_rok 192 [192, p] = true from decide_eq_true r_ref)]
            show e_tv E_C (E_V 192) e_t192_0 [192, p, 0, 0, 0, 0] M = _
            unfold e_t192_0
            simp [zq_a, zq_b, zq_c, zq_d, zq_e, zq_f, zq_g, zq_h, zq_i, zq_j, zq_k, zq_l, zq_m, zq_n, zq_o, zq_p, zq_q, zq_r, zq_s, zq_t, zq_u, zq_v, zq_w, zq_x, zq_y, zq_z, zq_A, zq_B, zq_C, zq_D, zq_E, zq_F, zq_G, zq_H, zq_I, zq_J, zq_K, zq_L, ↓zq_M, ↓zq_N, ↓zq_O, ↓zq_P, ↓zq_Q, ↓zq_R, zq_S, zq_T, zq_U, zq_V, zq_W, zq_X, zq_Y, zq_Z, zq_0, zq_1, zq_2, zq_3, zq_4, zq_5, ↓zq_6, ↓zq_7, ↓zq_8, ↓zq_9, ↓zq_aa, zq_ab, zq_ac, zq_ad, zq_ae, zq_af, zq_ag, ↓zq_ah, ↓zq_ai, ↓zq_aj, zq_ak, ↓zq_al, ↓zq_am, e_b1, e_b2, x_o1, x_o2, r_O0, r_F20, r_F21, r_F22, r_F23, w1, w2, w3, w4, w5, l0, l1, l2, l3, c0, c1, c2, c4, c5]
          · refine ⟨100, r_G M (28 * p + 15 + 1), r_G M (28 * p + 15 + 2), ?_⟩
            rw [r_ent (show e_rok 192 [192, p] = true from decide_eq_true r_ref)]
            show e_tv E_C (E_V 192) e_t192_0 [192, p, 0, 0, 0, 0] M = _
            unfold e_t192_0
            simp [zq_a, zq_b, zq_c, zq_d, zq_e, zq_f, zq_g, zq_h, zq_i, zq_j, zq_k, zq_l, zq_m, zq_n, zq_o, zq_p, zq_q, zq_r, zq_s, zq_t, zq_u, zq_v, zq_w, zq_x, zq_y, zq_z, zq_A, zq_B, zq_C, zq_D, zq_E, zq_F, zq_G, zq_H, zq_I, zq_J, zq_K, zq_L, ↓zq_M, ↓zq_N, ↓zq_O, ↓zq_P, ↓zq_Q, ↓zq_R, zq_S, zq_T, zq_U, zq_V, zq_W, zq_X, zq_Y, zq_Z, zq_0, zq_1, zq_2, zq_3, zq_4, zq_5, ↓zq_6, ↓zq_7, ↓zq_8, ↓zq_9, ↓zq_aa, zq_ab, zq_ac, zq_ad, zq_ae, zq_af, zq_ag, ↓zq_ah, ↓zq_ai, ↓zq_aj, zq_ak, ↓zq_al, ↓zq_am, e_b1, e_b2, x_o1, x_o2, r_O0, r_F20, r_F21, r_F22, r_F23, w1, w2, w3, w4, w5, l0, l1, l2, l3, c0, c1, c2, c4, c5]
      · rcases x_lt (M 192 20) 0 with c3 | c3
        · by_cases c4 : e_bit (fun x y => x &&& y) (M 192 22) 2 = 2
          · by_cases c5 : e_bit (fun x y => x &&& y) (M 192 22) 4 = 4
            · refine ⟨r_G M (28 * p + 15), 0, 0, ?_⟩
              rw [r_ent (show e_rok 192 [192, p] = true from decide_eq_true r_ref)]
              show e_tv E_C (E_V 192) e_t192_0 [192, p, 0, 0, 0, 0] M = _
              unfold e_t192_0
              simp [zq_a, zq_b, zq_c, zq_d, zq_e, zq_f, zq_g, zq_h, zq_i, zq_j, zq_k, zq_l, zq_m, zq_n, zq_o, zq_p, zq_q, zq_r, zq_s, zq_t, zq_u, zq_v, zq_w, zq_x, zq_y, zq_z, zq_A, zq_B, zq_C, zq_D, zq_E, zq_F, zq_G, zq_H, zq_I, zq_J, zq_K, zq_L, ↓zq_M, ↓zq_N, ↓zq_O, ↓zq_P, ↓zq_Q, ↓zq_R, zq_S, zq_T, zq_U, zq_V, zq_W, zq_X, zq_Y, zq_Z, zq_0, zq_1, zq_2, zq_3, zq_4, zq_5, ↓zq_6, ↓zq_7, ↓zq_8, ↓zq_9, ↓zq_aa, zq_ab, zq_ac, zq_ad, zq_ae, zq_af, zq_ag, ↓zq_ah, ↓zq_ai, ↓zq_aj, zq_ak, ↓zq_al, ↓zq_am, e_b1, e_b2, x_o1, x_o2, r_O0, r_F20, r_F21, r_F22, r_F23, w1, w2, w3, w4, w5, l0, l1, l2, l3, c0, c1, c2, c3, c4, c5]
            · refine ⟨r_G M (28 * p + 15), 0, r_G M (28 * p + 15 + 2), ?_⟩
              rw [r_ent (show e_rok 192 [192, p] = true from decide_eq_true r_ref)]
              show e_tv E_C (E_V 192) e_t192_0 [192, p, 0, 0, 0, 0] M = _
              unfold e_t192_0
              simp [zq_a, zq_b, zq_c, zq_d, zq_e, zq_f, zq_g, zq_h, zq_i, zq_j, zq_k, zq_l, zq_m, zq_n, zq_o, zq_p, zq_q, zq_r, zq_s, zq_t, zq_u, zq_v, zq_w, zq_x, zq_y, zq_z, zq_A, zq_B, zq_C, zq_D, zq_E, zq_F, zq_G, zq_H, zq_I, zq_J, zq_K, zq_L, ↓zq_M, ↓zq_N, ↓zq_O, ↓zq_P, ↓zq_Q, ↓zq_R, zq_S, zq_T, zq_U, zq_V, zq_W, zq_X, zq_Y, zq_Z, zq_0, zq_1, zq_2, zq_3, zq_4, zq_5, ↓zq_6, ↓zq_7, ↓zq_8, ↓zq_9, ↓zq_aa, zq_ab, zq_ac, zq_ad, zq_ae, zq_af, zq_ag, ↓zq_ah, ↓zq_ai, ↓zq_aj, zq_ak, ↓zq_al, ↓zq_am, e_b1, e_b2, x_o1, x_o2, r_O0, r_F20, r_F21, r_F22, r_F23, w1, w2, w3, w4, w5, l0, l1, l2, l3, c0, c1, c2, c3, c4, c5]
          · by_cases c5 : e_bit (fun x y => x &&& y) (M 192 22) 4 = 4
            · refine ⟨r_G M (28 * p + 15), r_G M (28 * p + 15 + 1), 0, ?_⟩
              rw [r_ent (show e_rok 192 [192, p] = true from decide_eq_true r_ref)]
              show e_tv E_C (E_V 192) e_t192_0 [192, p, 0, 0, 0, 0] M = _
              unfold e_t192_0
              simp [zq_a, zq_b, zq_c, zq_d, zq_e, zq_f, zq_g, zq_h, zq_i, zq_j, zq_k, zq_l, zq_m, zq_n, zq_o, zq_p, zq_q, zq_r, zq_s, zq_t, zq_u, zq_v, zq_w, zq_x, zq_y, zq_z, zq_A, zq_B, zq_C, zq_D, zq_E, zq_F, zq_G, zq_H, zq_I, zq_J, zq_K, zq_L, ↓zq_M, ↓zq_N, ↓zq_O, ↓zq_P, ↓zq_Q, ↓zq_R, zq_S, zq_T, zq_U, zq_V, zq_W, zq_X, zq_Y, zq_Z, zq_0, zq_1, zq_2, zq_3, zq_4, zq_5, ↓zq_6, ↓zq_7, ↓zq_8, ↓zq_9, ↓zq_aa, zq_ab, zq_ac, zq_ad, zq_ae, zq_af, zq_ag, ↓zq_ah, ↓zq_ai, ↓zq_aj, zq_ak, ↓zq_al, ↓zq_am, e_b1, e_b2, x_o1, x_o2, r_O0, r_F20, r_F21, r_F22, r_F23, w1, w2, w3, w4, w5, l0, l1, l2, l3, c0, c1, c2, c3, c4, c5]
            · refine ⟨r_G M (28 * p + 15), r_G M (28 * p + 15 + 1), r_G M (28 * p + 15 + 2), ?_⟩
              rw [r_ent (show e_rok 192 [192, p] = true from decide_eq_true r_ref)]
              show e_tv E_C (E_V 192) e_t192_0 [192, p, 0, 0, 0, 0] M = _
              unfold e_t192_0
              simp [zq_a, zq_b, zq_c, zq_d, zq_e, zq_f, zq_g, zq_h, zq_i, zq_j, zq_k, zq_l, zq_m, zq_n, zq_o, zq_p, zq_q, zq_r, zq_s, zq_t, zq_u, zq_v, zq_w, zq_x, zq_y, zq_z, zq_A, zq_B, zq_C, zq_D, zq_E, zq_F, zq_G, zq_H, zq_I, zq_J, zq_K, zq_L, ↓zq_M, ↓zq_N, ↓zq_O, ↓zq_P, ↓zq_Q, ↓zq_R, zq_S, zq_T, zq_U, zq_V, zq_W, zq_X, zq_Y, zq_Z, zq_0, zq_1, zq_2, zq_3, zq_4, zq_5, ↓zq_6, ↓zq_7, ↓zq_8, ↓zq_9, ↓zq_aa, zq_ab, zq_ac, zq_ad, zq_ae, zq_af, zq_ag, ↓zq_ah, ↓zq_ai, ↓zq_aj, zq_ak, ↓zq_al, ↓zq_am, e_b1, e_b2, x_o1, x_o2, r_O0, r_F20, r_F21, r_F22, r_F23, w1, w2, w3, w4, w5, l0, l1, l2, l3, c0, c1, c2, c3, c4, c5]
        · obtain ⟨t, kt, -⟩ := r_litOf (p := p) (h := M 192 20) hM ⟨c3.2, hh.2⟩ hp hl
          by_cases c4 : e_bit (fun x y => x &&& y) (M 192 22) 2 = 2
          · by_cases c5 : e_bit (fun x y => x &&& y) (M 192 22) 4 = 4
            · refine ⟨e_w ((e_w (t * M 192 21)).tdiv 100), 0, 0, ?_⟩
              rw [r_ent (show e_rok 192 [192, p] = true from decide_eq_true r_ref)]
              show e_tv E_C (E_V 192) e_t192_0 [192, p, 0, 0, 0, 0] M = _
              unfold e_t192_0
              simp [zq_a, zq_b, zq_c, zq_d, zq_e, zq_f, zq_g, zq_h, zq_i, zq_j, zq_k, zq_l, zq_m, zq_n, zq_o, zq_p, zq_q, zq_r, zq_s, zq_t, zq_u, zq_v, zq_w, zq_x, zq_y, zq_z, zq_A, zq_B, zq_C, zq_D, zq_E, zq_F, zq_G, zq_H, zq_I, zq_J, zq_K, zq_L, ↓zq_M, ↓zq_N, ↓zq_O, ↓zq_P, ↓zq_Q, ↓zq_R, zq_S, zq_T, zq_U, zq_V, zq_W, zq_X, zq_Y, zq_Z, zq_0, zq_1, zq_2, zq_3, zq_4, zq_5, ↓zq_6, ↓zq_7, ↓zq_8, ↓zq_9, ↓zq_aa, zq_ab, zq_ac, zq_ad, zq_ae, zq_af, zq_ag, ↓zq_ah, ↓zq_ai, ↓zq_aj, zq_ak, ↓zq_al, ↓zq_am, e_b1, e_b2, x_o1, x_o2, r_O0, r_F20, r_F21, r_F22, r_F23, w1, w2, w3, w4, w5, l0, l1, l2, l3, c0, c1, c2, c3, kt, c4, c5]
            · refine ⟨e_w ((e_w (t * M 192 21)).tdiv 100), 0, r_G M (28 * p + 15 + 2), ?_⟩
              rw [r_ent (show e_rok 192 [192, p] = true from decide_eq_true r_ref)]
              show e_tv E_C (E_V 192) e_t192_0 [192, p, 0, 0, 0, 0] M = _
              unfold e_t192_0
              simp [zq_a, zq_b, zq_c, zq_d, zq_e, zq_f, zq_g, zq_h, zq_i, zq_j, zq_k, zq_l, zq_m, zq_n, zq_o, zq_p, zq_q, zq_r, zq_s, zq_t, zq_u, zq_v, zq_w, zq_x, zq_y, zq_z, zq_A, zq_B, zq_C, zq_D, zq_E, zq_F, zq_G, zq_H, zq_I, zq_J, zq_K, zq_L, ↓zq_M, ↓zq_N, ↓zq_O, ↓zq_P, ↓zq_Q, ↓zq_R, zq_S, zq_T, zq_U, zq_V, zq_W, zq_X, zq_Y, zq_Z, zq_0, zq_1, zq_2, zq_3, zq_4, zq_5, ↓zq_6, ↓zq_7, ↓zq_8, ↓zq_9, ↓zq_aa, zq_ab, zq_ac, zq_ad, zq_ae, zq_af, zq_ag, ↓zq_ah, ↓zq_ai, ↓zq_aj, zq_ak, ↓zq_al, ↓zq_am, e_b1, e_b2, x_o1, x_o2, r_O0, r_F20, r_F21, r_F22, r_F23, w1, w2, w3, w4, w5, l0, l1, l2, l3, c0, c1, c2, c3, kt, c4, c5]
          · by_cases c5 : e_bit (fun x y => x &&& y) (M 192 22) 4 = 4
            · refine ⟨e_w ((e_w (t * M 192 21)).tdiv 100), r_G M (28 * p + 15 + 1), 0, ?_⟩
              rw [r_ent (show e_rok 192 [192, p] = true from decide_eq_true r_ref)]
              show e_tv E_C (E_V 192) e_t192_0 [192, p, 0, 0, 0, 0] M = _
              unfold e_t192_0
              simp [zq_a, zq_b, zq_c, zq_d, zq_e, zq_f, zq_g, zq_h, zq_i, zq_j, zq_k, zq_l, zq_m, zq_n, zq_o, zq_p, zq_q, zq_r, zq_s, zq_t, zq_u, zq_v, zq_w, zq_x, zq_y, zq_z, zq_A, zq_B, zq_C, zq_D, zq_E, zq_F, zq_G, zq_H, zq_I, zq_J, zq_K, zq_L, ↓zq_M, ↓zq_N, ↓zq_O, ↓zq_P, ↓zq_Q, ↓zq_R, zq_S, zq_T, zq_U, zq_V, zq_W, zq_X, zq_Y, zq_Z, zq_0, zq_1, zq_2, zq_3, zq_4, zq_5, ↓zq_6, ↓zq_7, ↓zq_8, ↓zq_9, ↓zq_aa, zq_ab, zq_ac, zq_ad, zq_ae, zq_af, zq_ag, ↓zq_ah, ↓zq_ai, ↓zq_aj, zq_ak, ↓zq_al, ↓zq_am, e_b1, e_b2, x_o1, x_o2, r_O0, r_F20, r_F21, r_F22, r_F23, w1, w2, w3, w4, w5, l0, l1, l2, l3, c0, c1, c2, c3, kt, c4, c5]
            · refine ⟨e_w ((e_w (t * M 192 21)).tdiv 100), r_G M (28 * p + 15 + 1), r_G M (28 * p + 15 + 2), ?_⟩
              rw [r_ent (show e_rok 192 [192, p] = true from decide_eq_true r_ref)]
              show e_tv E_C (E_V 192) e_t192_0 [192, p, 0, 0, 0, 0] M = _
              unfold e_t192_0
              simp [zq_a, zq_b, zq_c, zq_d, zq_e, zq_f, zq_g, zq_h, zq_i, zq_j, zq_k, zq_l, zq_m, zq_n, zq_o, zq_p, zq_q, zq_r, zq_s, zq_t, zq_u, zq_v, zq_w, zq_x, zq_y, zq_z, zq_A, zq_B, zq_C, zq_D, zq_E, zq_F, zq_G, zq_H, zq_I, zq_J, zq_K, zq_L, ↓zq_M, ↓zq_N, ↓zq_O, ↓zq_P, ↓zq_Q, ↓zq_R, zq_S, zq_T, zq_U, zq_V, zq_W, zq_X, zq_Y, zq_Z, zq_0, zq_1, zq_2, zq_3, zq_4, zq_5, ↓zq_6, ↓zq_7, ↓zq_8, ↓zq_9, ↓zq_aa, zq_ab, zq_ac, zq_ad, zq_ae, zq_af, zq_ag, ↓zq_ah, ↓zq_ai, ↓zq_aj, zq_ak, ↓zq_al, ↓zq_am, e_b1, e_b2, x_o1, x_o2, r_O0, r_F20, r_F21, r_F22, r_F23, w1, w2, w3, w4, w5, l0, l1, l2, l3, c0, c1, c2, c3, kt, c4, c5]
theorem r_pushAt {p i : Int} {M : EM} (hp : 0 ≤ p ∧ p < 40) (hi : 0 ≤ i ∧ i < 200) : r_P 193 [192, p, i] M := by
  have w1 : e_w (28 * p) = 28 * p := a_w_id (by omega) (by omega)
  have w2 : e_w (28 * p + 15) = 28 * p + 15 := a_w_id (by omega) (by omega)
  have w3 : e_w (28 * p + 15 + 3) = 28 * p + 15 + 3 := a_w_id (by omega) (by omega)
  have l1 : e_op 60 [193, 28 * p + 15 + 3] M = some (r_G M (28 * p + 15 + 3)) := r_rd (by omega) (by omega)
  have k := r_of (M := M) hp hi
  suffices hs : ∃ w, E_C 193 [192, p, i] M = some (e_w (M 193 (28 * p + 3 + i).toNat - e_w ((e_w (M 193 (28 * p + 3 + i).toNat * w)).tdiv 100)), M) by
    obtain ⟨w, k⟩ := hs
    exact ⟨_, k, a_w _⟩
  by_cases c4 : e_bit (fun x y => x &&& y) (M 192 22) 8 = 8
  · refine ⟨0, ?_⟩
    rw [r_ent (show e_rok 193 [192, p, i] = true from decide_eq_true r_ref)]
    show e_tv E_C (E_V 193) e_t193_0 [192, p, i, 0] M = _
    unfold e_t193_0
    simp [zq_a, zq_b, zq_c, zq_d, zq_e, zq_f, zq_g, zq_h, zq_i, zq_j, zq_k, zq_l, zq_m, zq_n, zq_o, zq_p, zq_q, zq_r, zq_s, zq_t, zq_u, zq_v, zq_w, zq_x, zq_y, zq_z, zq_A, zq_B, zq_C, zq_D, zq_E, zq_F, zq_G, zq_H, zq_I, zq_J, zq_K, zq_L, ↓zq_M, ↓zq_N, ↓zq_O, ↓zq_P, ↓zq_Q, ↓zq_R, zq_S, zq_T, zq_U, zq_V, zq_W, zq_X, zq_Y, zq_Z, zq_0, zq_1, zq_2, zq_3, zq_4, zq_5, ↓zq_6, ↓zq_7, ↓zq_8, ↓zq_9, ↓zq_aa, zq_ab, zq_ac, zq_ad, zq_ae, zq_af, zq_ag, ↓zq_ah, ↓zq_ai, ↓zq_aj, zq_ak, ↓zq_al, ↓zq_am, e_b1, e_b2, x_o1, x_o2, r_O0, r_F22, w1, w2, w3, l1, c4, k]
  · refine ⟨r_G M (28 * p + 15 + 3), ?_⟩
    rw [r_ent (show e_rok 193 [192, p, i] = true from decide_eq_true r_ref)]
    show e_tv E_C (E_V 193) e_t193_0 [192, p, i, 0] M = _
    unfold e_t193_0
    simp [zq_a, zq_b, zq_c, zq_d, zq_e, zq_f, zq_g, zq_h, zq_i, zq_j, zq_k, zq_l, zq_m, zq_n, zq_o, zq_p, zq_q, zq_r, zq_s, zq_t, zq_u, zq_v, zq_w, zq_x, zq_y, zq_z, zq_A, zq_B, zq_C, zq_D, zq_E, zq_F, zq_G, zq_H, zq_I, zq_J, zq_K, zq_L, ↓zq_M, ↓zq_N, ↓zq_O, ↓zq_P, ↓zq_Q, ↓zq_R, zq_S, zq_T, zq_U, zq_V, zq_W, zq_X, zq_Y, zq_Z, zq_0, zq_1, zq_2, zq_3, zq_4, zq_5, ↓zq_6, ↓zq_7, ↓zq_8, ↓zq_9, ↓zq_aa, zq_ab, zq_ac, zq_ad, zq_ae, zq_af, zq_ag, ↓zq_ah, ↓zq_ai, ↓zq_aj, zq_ak, ↓zq_al, ↓zq_am, e_b1, e_b2, x_o1, x_o2, r_O0, r_F22, w1, w2, w3, l1, c4, k]
theorem r_currentAt {p i sh : Int} {M : EM} (hp : 0 ≤ p ∧ p < 40) (hi : 0 ≤ i ∧ i < 200) : r_P 194 [192, p, i, sh] M := by
  have w1 : e_w (28 * p) = 28 * p := a_w_id (by omega) (by omega)
  have w2 : e_w (28 * p + 9) = 28 * p + 9 := a_w_id (by omega) (by omega)
  have w3 : e_w (28 * p + 9 + i) = 28 * p + 9 + i := a_w_id (by omega) (by omega)
  have l1 : e_op 60 [193, 28 * p + 9 + i] M = some (r_G M (28 * p + 9 + i)) := r_rd (by omega) (by omega)
  refine ⟨e_w ((e_w (r_G M (28 * p + 9 + i) * sh)).tdiv 100), ?_, a_w _⟩
  rw [r_ent (show e_rok 194 [192, p, i, sh] = true from decide_eq_true r_ref)]
  show e_tv E_C (E_V 194) e_t194_0 [192, p, i, sh] M = _
  unfold e_t194_0
  simp [zq_a, zq_b, zq_c, zq_d, zq_e, zq_f, zq_g, zq_h, zq_i, zq_j, zq_k, zq_l, zq_m, zq_n, zq_o, zq_p, zq_q, zq_r, zq_s, zq_t, zq_u, zq_v, zq_w, zq_x, zq_y, zq_z, zq_A, zq_B, zq_C, zq_D, zq_E, zq_F, zq_G, zq_H, zq_I, zq_J, zq_K, zq_L, ↓zq_M, ↓zq_N, ↓zq_O, ↓zq_P, ↓zq_Q, ↓zq_R, zq_S, zq_T, zq_U, zq_V, zq_W, zq_X, zq_Y, zq_Z, zq_0, zq_1, zq_2, zq_3, zq_4, zq_5, ↓zq_6, ↓zq_7, ↓zq_8, ↓zq_9, ↓zq_aa, zq_ab, zq_ac, zq_ad, zq_ae, zq_af, zq_ag, ↓zq_ah, ↓zq_ai, ↓zq_aj, zq_ak, ↓zq_al, ↓zq_am, e_b1, e_b2, x_o1, x_o2, r_O0, w1, w2, w3, l1]
theorem r_ne_w {a b : Int} (ha : -2147483648 ≤ a ∧ a ≤ 2147483647) (hb : -2147483648 ≤ b ∧ b ≤ 2147483647) (h : a ≠ b) : e_w (a - b) ≠ 0 := by
  unfold e_w
  omega
theorem r_cell_loop {p c sh x4 : Int} {M : EM} (hp : 0 ≤ p ∧ p < 40) : ∀ (m : Nat) (x5 x6 x7 x8 : Int), x5.toNat ≤ m → x5 ≤ 100 → ∃ r, E_V 198 46 [192, p, c, sh, x4, x5, x6, x7, x8] M = some (r, M) ∧ -2147483648 ≤ r ∧ r ≤ 2147483647 := by
  have hend : ∀ x5 x6 x7 x8, ¬ (0 < x5) → ∃ r, E_V 198 46 [192, p, c, sh, x4, x5, x6, x7, x8] M = some (r, M) ∧ -2147483648 ≤ r ∧ r ≤ 2147483647 := by
    intro x5 x6 x7 x8 q
    refine ⟨0, ?_, by decide, by decide⟩
    rw [E_V_eq]
    show e_tv E_C (E_V 198) e_t198_46 [192, p, c, sh, x4, x5, x6, x7, x8] M = _
    unfold e_t198_46
    simp [zq_a, zq_b, zq_c, zq_d, zq_e, zq_f, zq_g, zq_h, zq_i, zq_j, zq_k, zq_l, zq_m, zq_n, zq_o, zq_p, zq_q, zq_r, zq_s, zq_t, zq_u, zq_v, zq_w, zq_x, zq_y, zq_z, zq_A, zq_B, zq_C, zq_D, zq_E, zq_F, zq_G, zq_H, zq_I, zq_J, zq_K, zq_L, ↓zq_M, ↓zq_N, ↓zq_O, ↓zq_P, ↓zq_Q, ↓zq_R, zq_S, zq_T, zq_U, zq_V, zq_W, zq_X, zq_Y, zq_Z, zq_0, zq_1, zq_2, zq_3, zq_4, zq_5, ↓zq_6, ↓zq_7, ↓zq_8, ↓zq_9, ↓zq_aa, zq_ab, zq_ac, zq_ad, zq_ae, zq_af, zq_ag, ↓zq_ah, ↓zq_ai, ↓zq_aj, zq_ak, ↓zq_al, ↓zq_am, e_b1, e_b2, x_o1, x_o2, q]
  intro m
  induction m with
  | zero => intro x5 x6 x7 x8 hm h0; exact hend x5 x6 x7 x8 (by omega)
  | succ m ih =>
    intro x5 x6 x7 x8 hm h0
    rcases x_lt 0 x5 with ⟨q, q_n⟩ | ⟨q, q_n⟩
    · have w1 : e_w (x5 - 1) = x5 - 1 := a_w_id (by omega) (by omega)
      have w2 : e_w (x5 + -1) = x5 - 1 := a_w_id (by omega) (by omega)
      obtain ⟨a, ka, ha⟩ := r_currentAt (p := p) (i := x5) (sh := sh) (M := M) hp ⟨by omega, by omega⟩
      obtain ⟨b, kb, hb⟩ := r_currentAt (p := p) (i := x5 - 1) (sh := sh) (M := M) hp ⟨by omega, by omega⟩
      obtain ⟨s, ks, hs⟩ := r_pushAt (p := p) (i := x5) (M := M) hp ⟨by omega, by omega⟩
      obtain ⟨t, kt, ht⟩ := r_pushAt (p := p) (i := x5 - 1) (M := M) hp ⟨by omega, by omega⟩
      have hgo : ∀ y6 y7 y8, ∃ r, E_V 198 136 [192, p, c, sh, x4, x5, y6, y7, y8] M = some (r, M) ∧ -2147483648 ≤ r ∧ r ≤ 2147483647 := by
        intro y6 y7 y8
        obtain ⟨r, k, hr⟩ := ih (x5 - 1) y6 y7 y8 (by omega) (by omega)
        refine ⟨r, ?_, hr⟩
        rw [E_V_eq]
        show e_tv E_C (E_V 198) e_t198_136 [192, p, c, sh, x4, x5, y6, y7, y8] M = _
        unfold e_t198_136
        simp [zq_a, zq_b, zq_c, zq_d, zq_e, zq_f, zq_g, zq_h, zq_i, zq_j, zq_k, zq_l, zq_m, zq_n, zq_o, zq_p, zq_q, zq_r, zq_s, zq_t, zq_u, zq_v, zq_w, zq_x, zq_y, zq_z, zq_A, zq_B, zq_C, zq_D, zq_E, zq_F, zq_G, zq_H, zq_I, zq_J, zq_K, zq_L, ↓zq_M, ↓zq_N, ↓zq_O, ↓zq_P, ↓zq_Q, ↓zq_R, zq_S, zq_T, zq_U, zq_V, zq_W, zq_X, zq_Y, zq_Z, zq_0, zq_1, zq_2, zq_3, zq_4, zq_5, ↓zq_6, ↓zq_7, ↓zq_8, ↓zq_9, ↓zq_aa, zq_ab, zq_ac, zq_ad, zq_ae, zq_af, zq_ag, ↓zq_ah, ↓zq_ai, ↓zq_aj, zq_ak, ↓zq_al, ↓zq_am, e_b1, e_b2, x_o1, x_o2, w2, k]
      rcases x_le a c with ⟨c1, c1_n⟩ | ⟨c1, c1_n⟩
      · rcases x_lt b c with ⟨c2, c2_n⟩ | ⟨c2, c2_n⟩
        · obtain ⟨r, k, hr⟩ := hgo a b x8
          refine ⟨r, ?_, hr⟩
          rw [E_V_eq]
          show e_tv E_C (E_V 198) e_t198_46 [192, p, c, sh, x4, x5, x6, x7, x8] M = _
          unfold e_t198_46
          simp [zq_a, zq_b, zq_c, zq_d, zq_e, zq_f, zq_g, zq_h, zq_i, zq_j, zq_k, zq_l, zq_m, zq_n, zq_o, zq_p, zq_q, zq_r, zq_s, zq_t, zq_u, zq_v, zq_w, zq_x, zq_y, zq_z, zq_A, zq_B, zq_C, zq_D, zq_E, zq_F, zq_G, zq_H, zq_I, zq_J, zq_K, zq_L, ↓zq_M, ↓zq_N, ↓zq_O, ↓zq_P, ↓zq_Q, ↓zq_R, zq_S, zq_T, zq_U, zq_V, zq_W, zq_X, zq_Y, zq_Z, zq_0, zq_1, zq_2, zq_3, zq_4, zq_5, ↓zq_6, ↓zq_7, ↓zq_8, ↓zq_9, ↓zq_aa, zq_ab, zq_ac, zq_ad, zq_ae, zq_af, zq_ag, ↓zq_ah, ↓zq_ai, ↓zq_aj, zq_ak, ↓zq_al, ↓zq_am, e_b1, e_b2, x_o1, x_o2, q, q_n, w1, ka, kb, c1, c1_n, c2, c2_n, k]
        · by_cases c3 : b = a
          · refine ⟨s, ?_, hs⟩
            rw [c3] at kb c2
            rw [E_V_eq]
            show e_tv E_C (E_V 198) e_t198_46 [192, p, c, sh, x4, x5, x6, x7, x8] M = _
            unfold e_t198_46
            simp [zq_a, zq_b, zq_c, zq_d, zq_e, zq_f, zq_g, zq_h, zq_i, zq_j, zq_k, zq_l, zq_m, zq_n, zq_o, zq_p, zq_q, zq_r, zq_s, zq_t, zq_u, zq_v, zq_w, zq_x, zq_y, zq_z, zq_A, zq_B, zq_C, zq_D, zq_E, zq_F, zq_G, zq_H, zq_I, zq_J, zq_K, zq_L, ↓zq_M, ↓zq_N, ↓zq_O, ↓zq_P, ↓zq_Q, ↓zq_R, zq_S, zq_T, zq_U, zq_V, zq_W, zq_X, zq_Y, zq_Z, zq_0, zq_1, zq_2, zq_3, zq_4, zq_5, ↓zq_6, ↓zq_7, ↓zq_8, ↓zq_9, ↓zq_aa, zq_ab, zq_ac, zq_ad, zq_ae, zq_af, zq_ag, ↓zq_ah, ↓zq_ai, ↓zq_aj, zq_ak, ↓zq_al, ↓zq_am, e_b1, e_b2, x_o1, x_o2, q, q_n, w1, ka, kb, ks, c1, c1_n, c2, c2_n]
          · have c4 := r_ne_w hb ha c3
            refine ⟨e_w (s - e_w ((e_w (e_w (s - t) * e_w (c - a))).tdiv (e_w (b - a)))), ?_, a_w _⟩
            rw [E_V_eq]
            show e_tv E_C (E_V 198) e_t198_46 [192, p, c, sh, x4, x5, x6, x7, x8] M = _
            unfold e_t198_46
            simp [zq_a, zq_b, zq_c, zq_d, zq_e, zq_f, zq_g, zq_h, zq_i, zq_j, zq_k, zq_l, zq_m, zq_n, zq_o, zq_p, zq_q, zq_r, zq_s, zq_t, zq_u, zq_v, zq_w, zq_x, zq_y, zq_z, zq_A, zq_B, zq_C, zq_D, zq_E, zq_F, zq_G, zq_H, zq_I, zq_J, zq_K, zq_L, ↓zq_M, ↓zq_N, ↓zq_O, ↓zq_P, ↓zq_Q, ↓zq_R, zq_S, zq_T, zq_U, zq_V, zq_W, zq_X, zq_Y, zq_Z, zq_0, zq_1, zq_2, zq_3, zq_4, zq_5, ↓zq_6, ↓zq_7, ↓zq_8, ↓zq_9, ↓zq_aa, zq_ab, zq_ac, zq_ad, zq_ae, zq_af, zq_ag, ↓zq_ah, ↓zq_ai, ↓zq_aj, zq_ak, ↓zq_al, ↓zq_am, e_b1, e_b2, x_o1, x_o2, q, q_n, w1, ka, kb, ks, kt, c1, c1_n, c2, c2_n, c3, c4]
      · obtain ⟨r, k, hr⟩ := hgo a b x8
        refine ⟨r, ?_, hr⟩
        rw [E_V_eq]
        show e_tv E_C (E_V 198) e_t198_46 [192, p, c, sh, x4, x5, x6, x7, x8] M = _
        unfold e_t198_46
        simp [zq_a, zq_b, zq_c, zq_d, zq_e, zq_f, zq_g, zq_h, zq_i, zq_j, zq_k, zq_l, zq_m, zq_n, zq_o, zq_p, zq_q, zq_r, zq_s, zq_t, zq_u, zq_v, zq_w, zq_x, zq_y, zq_z, zq_A, zq_B, zq_C, zq_D, zq_E, zq_F, zq_G, zq_H, zq_I, zq_J, zq_K, zq_L, ↓zq_M, ↓zq_N, ↓zq_O, ↓zq_P, ↓zq_Q, ↓zq_R, zq_S, zq_T, zq_U, zq_V, zq_W, zq_X, zq_Y, zq_Z, zq_0, zq_1, zq_2, zq_3, zq_4, zq_5, ↓zq_6, ↓zq_7, ↓zq_8, ↓zq_9, ↓zq_aa, zq_ab, zq_ac, zq_ad, zq_ae, zq_af, zq_ag, ↓zq_ah, ↓zq_ai, ↓zq_aj, zq_ak, ↓zq_al, ↓zq_am, e_b1, e_b2, x_o1, x_o2, q, q_n, w1, ka, kb, c1, c1_n, k]
    · exact hend x5 x6 x7 x8 q
theorem r_cellPush {p c sh : Int} {M : EM} (hp : 0 ≤ p ∧ p < 40) (hn : 0 ≤ r_G M (28 * p + 2) ∧ r_G M (28 * p + 2) ≤ 6) : r_P 198 [192, p, c, sh] M := by
  obtain ⟨a, ka, ha⟩ := r_currentAt (p := p) (i := 0) (sh := sh) (M := M) hp ⟨by decide, by decide⟩
  have km : E_C 171 [192, p] M = some (r_G M (28 * p + 2), M) := r_many hp
  have w1 : e_w (r_G M (28 * p + 2) - 1) = r_G M (28 * p + 2) - 1 := a_w_id (by omega) (by omega)
  obtain ⟨r, k, hr⟩ := r_cell_loop (c := c) (sh := sh) (x4 := a) (M := M) hp _ (r_G M (28 * p + 2) - 1) 0 0 0 (Nat.le_refl _) (by omega)
  rcases x_lt a c with ⟨c1, c1_n⟩ | ⟨c1, c1_n⟩
  · rcases x_lt 10 (e_w (c - a)) with ⟨c2, c2_n⟩ | ⟨c2, c2_n⟩
    · refine ⟨-20, ?_, by decide, by decide⟩
      rw [r_ent (show e_rok 198 [192, p, c, sh] = true from decide_eq_true r_ref)]
      show e_tv E_C (E_V 198) e_t198_0 [192, p, c, sh, 0, 0, 0, 0, 0] M = _
      unfold e_t198_0
      simp [zq_a, zq_b, zq_c, zq_d, zq_e, zq_f, zq_g, zq_h, zq_i, zq_j, zq_k, zq_l, zq_m, zq_n, zq_o, zq_p, zq_q, zq_r, zq_s, zq_t, zq_u, zq_v, zq_w, zq_x, zq_y, zq_z, zq_A, zq_B, zq_C, zq_D, zq_E, zq_F, zq_G, zq_H, zq_I, zq_J, zq_K, zq_L, ↓zq_M, ↓zq_N, ↓zq_O, ↓zq_P, ↓zq_Q, ↓zq_R, zq_S, zq_T, zq_U, zq_V, zq_W, zq_X, zq_Y, zq_Z, zq_0, zq_1, zq_2, zq_3, zq_4, zq_5, ↓zq_6, ↓zq_7, ↓zq_8, ↓zq_9, ↓zq_aa, zq_ab, zq_ac, zq_ad, zq_ae, zq_af, zq_ag, ↓zq_ah, ↓zq_ai, ↓zq_aj, zq_ak, ↓zq_al, ↓zq_am, e_b1, e_b2, x_o1, x_o2, ka, c1, c1_n, c2, c2_n]
    · refine ⟨e_w (-2 * e_w (c - a)), ?_, a_w _⟩
      rw [r_ent (show e_rok 198 [192, p, c, sh] = true from decide_eq_true r_ref)]
      show e_tv E_C (E_V 198) e_t198_0 [192, p, c, sh, 0, 0, 0, 0, 0] M = _
      unfold e_t198_0
      simp [zq_a, zq_b, zq_c, zq_d, zq_e, zq_f, zq_g, zq_h, zq_i, zq_j, zq_k, zq_l, zq_m, zq_n, zq_o, zq_p, zq_q, zq_r, zq_s, zq_t, zq_u, zq_v, zq_w, zq_x, zq_y, zq_z, zq_A, zq_B, zq_C, zq_D, zq_E, zq_F, zq_G, zq_H, zq_I, zq_J, zq_K, zq_L, ↓zq_M, ↓zq_N, ↓zq_O, ↓zq_P, ↓zq_Q, ↓zq_R, zq_S, zq_T, zq_U, zq_V, zq_W, zq_X, zq_Y, zq_Z, zq_0, zq_1, zq_2, zq_3, zq_4, zq_5, ↓zq_6, ↓zq_7, ↓zq_8, ↓zq_9, ↓zq_aa, zq_ab, zq_ac, zq_ad, zq_ae, zq_af, zq_ag, ↓zq_ah, ↓zq_ai, ↓zq_aj, zq_ak, ↓zq_al, ↓zq_am, e_b1, e_b2, x_o1, x_o2, ka, c1, c1_n, c2, c2_n]
  · refine ⟨r, ?_, hr⟩
    rw [r_ent (show e_rok 198 [192, p, c, sh] = true from decide_eq_true r_ref)]
    show e_tv E_C (E_V 198) e_t198_0 [192, p, c, sh, 0, 0, 0, 0, 0] M = _
    unfold e_t198_0
    simp [zq_a, zq_b, zq_c, zq_d, zq_e, zq_f, zq_g, zq_h, zq_i, zq_j, zq_k, zq_l, zq_m, zq_n, zq_o, zq_p, zq_q, zq_r, zq_s, zq_t, zq_u, zq_v, zq_w, zq_x, zq_y, zq_z, zq_A, zq_B, zq_C, zq_D, zq_E, zq_F, zq_G, zq_H, zq_I, zq_J, zq_K, zq_L, ↓zq_M, ↓zq_N, ↓zq_O, ↓zq_P, ↓zq_Q, ↓zq_R, zq_S, zq_T, zq_U, zq_V, zq_W, zq_X, zq_Y, zq_Z, zq_0, zq_1, zq_2, zq_3, zq_4, zq_5, ↓zq_6, ↓zq_7, ↓zq_8, ↓zq_9, ↓zq_aa, zq_ab, zq_ac, zq_ad, zq_ae, zq_af, zq_ag, ↓zq_ah, ↓zq_ai, ↓zq_aj, zq_ak, ↓zq_al, ↓zq_am, e_b1, e_b2, x_o1, x_o2, ka, c1, c1_n, km, w1, k]
end
