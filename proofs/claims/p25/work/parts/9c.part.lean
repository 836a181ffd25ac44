/-! PARTING by the reference -/
theorem r_wp_in {d x3 x4 : Int} {M : EM} (hd : 0 ≤ d ∧ d ≤ 7) (h3 : 0 ≤ x3 ∧ x3 < 120) (H : ∀ x5, ∃ r, E_V 238 37 [192, d, 0, x3 + 1, x4, x5] M = some (r, M) ∧ (r = 0 ∨ r = -13)) : ∀ (m : Nat) (x5 : Int), (x3 - x5).toNat ≤ m → 0 ≤ x5 → ∃ r, E_V 238 84 [192, d, 0, x3, x4, x5] M = some (r, M) ∧ (r = 0 ∨ r = -13) := by
  have w0 : e_w (x3 + 1) = x3 + 1 := a_w_id (by omega) (by omega)
  have hend : ∀ x5, ¬ (x5 < x3) → ∃ r, E_V 238 84 [192, d, 0, x3, x4, x5] M = some (r, M) ∧ (r = 0 ∨ r = -13) := by
    intro x5 q
    obtain ⟨r, k, hr⟩ := H x5
    refine ⟨r, ?_, hr⟩
    rw [E_V_eq]
    show e_tv E_C (E_V 238) e_t238_84 [192, d, 0, x3, x4, x5] M = _
    unfold e_t238_84
    simp [zq_a, zq_b, zq_c, zq_d, zq_e, zq_f, zq_g, zq_h, zq_i, zq_j, zq_k, zq_l, zq_m, zq_n, zq_o, zq_p, zq_q, zq_r, zq_s, zq_t, zq_u, zq_v, zq_w, zq_x, zq_y, zq_z, zq_A, zq_B, zq_C, zq_D, zq_E, zq_F, zq_G, zq_H, zq_I, zq_J, zq_K, zq_L, ↓zq_M, ↓zq_N, ↓zq_O, ↓zq_P, ↓zq_Q, ↓zq_R, zq_S, zq_T, zq_U, zq_V, zq_W, zq_X, zq_Y, zq_Z, zq_0, zq_1, zq_2, zq_3, zq_4, zq_5, ↓zq_6, ↓zq_7, ↓zq_8, ↓zq_9, ↓zq_aa, zq_ab, zq_ac, zq_ad, zq_ae, zq_af, zq_ag, ↓zq_ah, ↓zq_ai, ↓zq_aj, zq_ak, ↓zq_al, ↓zq_am, e_b1, e_b2, x_o1, x_o2, q, w0, k]
  intro m
  induction m with
  | zero => intro x5 hm h0; exact hend x5 (by omega)
  | succ m ih =>
    intro x5 hm h0
    rcases x_lt x5 x3 with ⟨q, q_n⟩ | ⟨q, q_n⟩
    · have w1 : e_w (120 * d) = 120 * d := a_w_id (by omega) (by omega)
      have w2 : e_w (120 * d + x5) = 120 * d + x5 := a_w_id (by omega) (by omega)
      have w4 : e_w (x5 + 1) = x5 + 1 := a_w_id (by omega) (by omega)
      have le := r_rdE (i := 120 * d + x5) (M := M) (by omega) (by omega)
      by_cases c : M 198 (120 * d + x5).toNat = x4
      · refine ⟨-13, ?_, Or.inr rfl⟩
        rw [E_V_eq]
        show e_tv E_C (E_V 238) e_t238_84 [192, d, 0, x3, x4, x5] M = _
        unfold e_t238_84
        simp [zq_a, zq_b, zq_c, zq_d, zq_e, zq_f, zq_g, zq_h, zq_i, zq_j, zq_k, zq_l, zq_m, zq_n, zq_o, zq_p, zq_q, zq_r, zq_s, zq_t, zq_u, zq_v, zq_w, zq_x, zq_y, zq_z, zq_A, zq_B, zq_C, zq_D, zq_E, zq_F, zq_G, zq_H, zq_I, zq_J, zq_K, zq_L, ↓zq_M, ↓zq_N, ↓zq_O, ↓zq_P, ↓zq_Q, ↓zq_R, zq_S, zq_T, zq_U, zq_V, zq_W, zq_X, zq_Y, zq_Z, zq_0, zq_1, zq_2, zq_3, zq_4, zq_5, ↓zq_6, ↓zq_7, ↓zq_8, ↓zq_9, ↓zq_aa, zq_ab, zq_ac, zq_ad, zq_ae, zq_af, zq_ag, ↓zq_ah, ↓zq_ai, ↓zq_aj, zq_ak, ↓zq_al, ↓zq_am, e_b1, e_b2, x_o1, x_o2, r_O5, q, q_n, w1, w2, le, c]
      · obtain ⟨r, k, hr⟩ := ih (x5 + 1) (by omega) (by omega)
        refine ⟨r, ?_, hr⟩
        rw [E_V_eq]
        show e_tv E_C (E_V 238) e_t238_84 [192, d, 0, x3, x4, x5] M = _
        unfold e_t238_84
        simp [zq_a, zq_b, zq_c, zq_d, zq_e, zq_f, zq_g, zq_h, zq_i, zq_j, zq_k, zq_l, zq_m, zq_n, zq_o, zq_p, zq_q, zq_r, zq_s, zq_t, zq_u, zq_v, zq_w, zq_x, zq_y, zq_z, zq_A, zq_B, zq_C, zq_D, zq_E, zq_F, zq_G, zq_H, zq_I, zq_J, zq_K, zq_L, ↓zq_M, ↓zq_N, ↓zq_O, ↓zq_P, ↓zq_Q, ↓zq_R, zq_S, zq_T, zq_U, zq_V, zq_W, zq_X, zq_Y, zq_Z, zq_0, zq_1, zq_2, zq_3, zq_4, zq_5, ↓zq_6, ↓zq_7, ↓zq_8, ↓zq_9, ↓zq_aa, zq_ab, zq_ac, zq_ad, zq_ae, zq_af, zq_ag, ↓zq_ah, ↓zq_ai, ↓zq_aj, zq_ak, ↓zq_al, ↓zq_am, e_b1, e_b2, x_o1, x_o2, r_O5, q, q_n, w1, w2, w4, le, c, k]
    · exact hend x5 q
/-- the first n elements of SHELF d are CELLS -/
def r_cells (M : EM) (d n : Int) : Prop := ∀ k, 0 ≤ k → k < n → r_cl (r_G M) 40 (M 198 (120 * d + k).toNat)
theorem r_wp_out {d : Int} {M : EM} (hJ : r_J M) (hd : 0 ≤ d ∧ d ≤ 7) : ∀ (m : Nat) (x3 x4 x5 : Int), (120 - x3).toNat ≤ m → 0 ≤ x3 → r_cells M d x3 → x3 ≤ M 197 d.toNat → ∃ r, E_V 238 37 [192, d, 0, x3, x4, x5] M = some (r, M) ∧ (r = 0 ∨ r = -13) ∧ (r = 0 → r_cells M d (M 197 d.toNat)) := by
  have hz := hJ.2.1 d.toNat (by omega)
  have ls := (r_isD d M hd).2.2.1
  have hW := (r_J_E hJ).2.1
  have hend : ∀ x3 x4 x5, ¬ (x3 < M 197 d.toNat) → r_cells M d x3 → x3 ≤ M 197 d.toNat → ∃ r, E_V 238 37 [192, d, 0, x3, x4, x5] M = some (r, M) ∧ (r = 0 ∨ r = -13) ∧ (r = 0 → r_cells M d (M 197 d.toNat)) := by
    intro x3 x4 x5 q hc h3
    refine ⟨0, ?_, Or.inl rfl, fun _ => by rw [show M 197 d.toNat = x3 by omega]; exact hc⟩
    rw [E_V_eq]
    show e_tv E_C (E_V 238) e_t238_37 [192, d, 0, x3, x4, x5] M = _
    unfold e_t238_37
    simp [zq_a, zq_b, zq_c, zq_d, zq_e, zq_f, zq_g, zq_h, zq_i, zq_j, zq_k, zq_l, zq_m, zq_n, zq_o, zq_p, zq_q, zq_r, zq_s, zq_t, zq_u, zq_v, zq_w, zq_x, zq_y, zq_z, zq_A, zq_B, zq_C, zq_D, zq_E, zq_F, zq_G, zq_H, zq_I, zq_J, zq_K, zq_L, ↓zq_M, ↓zq_N, ↓zq_O, ↓zq_P, ↓zq_Q, ↓zq_R, zq_S, zq_T, zq_U, zq_V, zq_W, zq_X, zq_Y, zq_Z, zq_0, zq_1, zq_2, zq_3, zq_4, zq_5, ↓zq_6, ↓zq_7, ↓zq_8, ↓zq_9, ↓zq_aa, zq_ab, zq_ac, zq_ad, zq_ae, zq_af, zq_ag, ↓zq_ah, ↓zq_ai, ↓zq_aj, zq_ak, ↓zq_al, ↓zq_am, e_b1, e_b2, x_o1, x_o2, r_O4, ls, q]
  intro m
  induction m with
  | zero => intro x3 x4 x5 hm h0 hc h3; exact hend x3 x4 x5 (by omega) hc h3
  | succ m ih =>
    intro x3 x4 x5 hm h0 hc h3
    rcases x_lt x3 (M 197 d.toNat) with ⟨q, q_n⟩ | ⟨q, q_n⟩
    · have w1 : e_w (120 * d) = 120 * d := a_w_id (by omega) (by omega)
      have w2 : e_w (120 * d + x3) = 120 * d + x3 := a_w_id (by omega) (by omega)
      have le := r_rdE (i := 120 * d + x3) (M := M) (by omega) (by omega)
      generalize hp : M 198 (120 * d + x3).toNat = p at le
      by_cases c1 : 0 ≤ p ∧ p < r_G M 1198
      · have ip := r_ip1 hW c1
        have h40 := r_40 hW c1
        have kk : E_C 170 [192, p] M = some (r_G M (28 * p), M) := r_kind h40
        by_cases c2 : r_G M (28 * p) = 0
        · have hcl : r_cl (r_G M) 40 p := r_cl_up (r_pt_cell (r_pt_of hW c1) c2) hW.2.1
          have hc' : r_cells M d (x3 + 1) := by
            intro k k0 k1
            by_cases hk : k = x3
            · subst hk; rw [hp]; exact hcl
            · exact hc k k0 (by omega)
          have HH : ∀ y5, ∃ r, E_V 238 37 [192, d, 0, x3 + 1, p, y5] M = some (r, M) ∧ (r = 0 ∨ r = -13) ∧ (r = 0 → r_cells M d (M 197 d.toNat)) := fun y5 => ih (x3 + 1) p y5 (by omega) (by omega) hc' (by omega)
          obtain ⟨r, k, hr⟩ := r_wp_in (x4 := p) hd ⟨h0, by omega⟩ (fun y5 => by
            obtain ⟨r, k, hr, -⟩ := HH y5
            exact ⟨r, k, hr⟩) _ 0 (Nat.le_refl _) (by decide)
          refine ⟨r, ?_, hr, fun hr0 => ?_⟩
          · rw [E_V_eq]
            show e_tv E_C (E_V 238) e_t238_37 [192, d, 0, x3, x4, x5] M = _
            unfold e_t238_37
            simp [zq_a, zq_b, zq_c, zq_d, zq_e, zq_f, zq_g, zq_h, zq_i, zq_j, zq_k, zq_l, zq_m, zq_n, zq_o, zq_p, zq_q, zq_r, zq_s, zq_t, zq_u, zq_v, zq_w, zq_x, zq_y, zq_z, zq_A, zq_B, zq_C, zq_D, zq_E, zq_F, zq_G, zq_H, zq_I, zq_J, zq_K, zq_L, ↓zq_M, ↓zq_N, ↓zq_O, ↓zq_P, ↓zq_Q, ↓zq_R, zq_S, zq_T, zq_U, zq_V, zq_W, zq_X, zq_Y, zq_Z, zq_0, zq_1, zq_2, zq_3, zq_4, zq_5, ↓zq_6, ↓zq_7, ↓zq_8, ↓zq_9, ↓zq_aa, zq_ab, zq_ac, zq_ad, zq_ae, zq_af, zq_ag, ↓zq_ah, ↓zq_ai, ↓zq_aj, zq_ak, ↓zq_al, ↓zq_am, e_b1, e_b2, x_o1, x_o2, r_O4, r_O5, ls, q, q_n, w1, w2, le, ip, kk, c2, k]
          · -- r = 0 says that what follows said 0
            by_cases hx : x3 + 1 = M 197 d.toNat
            · rw [← hx]; exact hc'
            · have key : ∀ (m : Nat) (y5 : Int), (x3 - y5).toNat ≤ m → 0 ≤ y5 → ∀ r, E_V 238 84 [192, d, 0, x3, p, y5] M = some (r, M) → r = 0 → r_cells M d (M 197 d.toNat) := by
                intro m
                induction m with
                | zero =>
                  intro y5 hm1 hy0 r1 hk1 hr1
                  obtain ⟨r2, k2, -, h2⟩ := HH y5
                  have w0 : e_w (x3 + 1) = x3 + 1 := a_w_id (by omega) (by omega)
                  have hq : ¬ (y5 < x3) := by omega
                  rw [E_V_eq] at hk1
                  have e : e_tv E_C (E_V 238) e_t238_84 [192, d, 0, x3, p, y5] M = some (r2, M) := by
                    unfold e_t238_84
                    simp [zq_a, zq_b, zq_c, zq_d, zq_e, zq_f, zq_g, zq_h, zq_i, zq_j, zq_k, zq_l, zq_m, zq_n, zq_o, zq_p, zq_q, zq_r, zq_s, zq_t, zq_u, zq_v, zq_w, zq_x, zq_y, zq_z, zq_A, zq_B, zq_C, zq_D, zq_E, zq_F, zq_G, zq_H, zq_I, zq_J, zq_K, zq_L, ↓zq_M, ↓zq_N, ↓zq_O, ↓zq_P, ↓zq_Q, ↓zq_R, zq_S, zq_T, zq_U, zq_V, zq_W, zq_X, zq_Y, zq_Z, zq_0, zq_1, zq_2, zq_3, zq_4, zq_5, ↓zq_6, ↓zq_7, ↓zq_8, ↓zq_9, ↓zq_aa, zq_ab, zq_ac, zq_ad, zq_ae, zq_af, zq_ag, ↓zq_ah, ↓zq_ai, ↓zq_aj, zq_ak, ↓zq_al, ↓zq_am, e_b1, e_b2, x_o1, x_o2, hq, w0, k2]
                  have e2 := hk1.symm.trans e
                  cases e2
                  exact h2 hr1
                | succ m ihm =>
                  intro y5 hm1 hy0 r1 hk1 hr1
                  rcases x_lt y5 x3 with ⟨hq, hq_n⟩ | ⟨hq, hq_n⟩
                  · have v2 : e_w (120 * d + y5) = 120 * d + y5 := a_w_id (by omega) (by omega)
                    have v4 : e_w (y5 + 1) = y5 + 1 := a_w_id (by omega) (by omega)
                    have ve := r_rdE (i := 120 * d + y5) (M := M) (by omega) (by omega)
                    rw [E_V_eq] at hk1
                    by_cases c : M 198 (120 * d + y5).toNat = p
                    · have e : e_tv E_C (E_V 238) e_t238_84 [192, d, 0, x3, p, y5] M = some (-13, M) := by
                        unfold e_t238_84
                        simp [zq_a, zq_b, zq_c, zq_d, zq_e, zq_f, zq_g, zq_h, zq_i, zq_j, zq_k, zq_l, zq_m, zq_n, zq_o, zq_p, zq_q, zq_r, zq_s, zq_t, zq_u, zq_v, zq_w, zq_x, zq_y, zq_z, zq_A, zq_B, zq_C, zq_D, zq_E, zq_F, zq_G, zq_H, zq_I, zq_J, zq_K, zq_L, ↓zq_M, ↓zq_N, ↓zq_O, ↓zq_P, ↓zq_Q, ↓zq_R, zq_S, zq_T, zq_U, zq_V, zq_W, zq_X, zq_Y, zq_Z, zq_0, zq_1, zq_2, zq_3, zq_4, zq_5, ↓zq_6, ↓zq_7, ↓zq_8, ↓zq_9, ↓zq_aa, zq_ab, zq_ac, zq_ad, zq_ae, zq_af, zq_ag, ↓zq_ah, ↓zq_ai, ↓zq_aj, zq_ak, ↓zq_al, ↓zq_am, e_b1, e_b2, x_o1, x_o2, r_O5, hq, hq_n, w1, v2, ve, c]
                      have e2 := hk1.symm.trans e
                      cases e2
                      exact absurd hr1 (by decide)
                    · have e : e_tv E_C (E_V 238) e_t238_84 [192, d, 0, x3, p, y5] M = E_V 238 84 [192, d, 0, x3, p, y5 + 1] M := by
                        unfold e_t238_84
                        simp [zq_a, zq_b, zq_c, zq_d, zq_e, zq_f, zq_g, zq_h, zq_i, zq_j, zq_k, zq_l, zq_m, zq_n, zq_o, zq_p, zq_q, zq_r, zq_s, zq_t, zq_u, zq_v, zq_w, zq_x, zq_y, zq_z, zq_A, zq_B, zq_C, zq_D, zq_E, zq_F, zq_G, zq_H, zq_I, zq_J, zq_K, zq_L, ↓zq_M, ↓zq_N, ↓zq_O, ↓zq_P, ↓zq_Q, ↓zq_R, zq_S, zq_T, zq_U, zq_V, zq_W, zq_X, zq_Y, zq_Z, zq_0, zq_1, zq_2, zq_3, zq_4, zq_5, ↓zq_6, ↓zq_7, ↓zq_8, ↓zq_9, ↓zq_aa, zq_ab, zq_ac, zq_ad, zq_ae, zq_af, zq_ag, ↓zq_ah, ↓zq_ai, ↓zq_aj, zq_ak, ↓zq_al, ↓zq_am, e_b1, e_b2, x_o1, x_o2, r_O5, hq, hq_n, w1, v2, v4, ve, c]
                      exact ihm (y5 + 1) (by omega) (by omega) r1 (e.symm.trans hk1) hr1
                  · obtain ⟨r2, k2, -, h2⟩ := HH y5
                    have w0 : e_w (x3 + 1) = x3 + 1 := a_w_id (by omega) (by omega)
                    rw [E_V_eq] at hk1
                    have e : e_tv E_C (E_V 238) e_t238_84 [192, d, 0, x3, p, y5] M = some (r2, M) := by
                      unfold e_t238_84
                      simp [zq_a, zq_b, zq_c, zq_d, zq_e, zq_f, zq_g, zq_h, zq_i, zq_j, zq_k, zq_l, zq_m, zq_n, zq_o, zq_p, zq_q, zq_r, zq_s, zq_t, zq_u, zq_v, zq_w, zq_x, zq_y, zq_z, zq_A, zq_B, zq_C, zq_D, zq_E, zq_F, zq_G, zq_H, zq_I, zq_J, zq_K, zq_L, ↓zq_M, ↓zq_N, ↓zq_O, ↓zq_P, ↓zq_Q, ↓zq_R, zq_S, zq_T, zq_U, zq_V, zq_W, zq_X, zq_Y, zq_Z, zq_0, zq_1, zq_2, zq_3, zq_4, zq_5, ↓zq_6, ↓zq_7, ↓zq_8, ↓zq_9, ↓zq_aa, zq_ab, zq_ac, zq_ad, zq_ae, zq_af, zq_ag, ↓zq_ah, ↓zq_ai, ↓zq_aj, zq_ak, ↓zq_al, ↓zq_am, e_b1, e_b2, x_o1, x_o2, hq, hq_n, w0, k2]
                    have e2 := hk1.symm.trans e
                    cases e2
                    exact h2 hr1
              exact key _ 0 (Nat.le_refl _) (by decide) r k hr0
        · refine ⟨-13, ?_, Or.inr rfl, fun h => absurd h (by decide)⟩
          rw [E_V_eq]
          show e_tv E_C (E_V 238) e_t238_37 [192, d, 0, x3, x4, x5] M = _
          unfold e_t238_37
          simp [zq_a, zq_b, zq_c, zq_d, zq_e, zq_f, zq_g, zq_h, zq_i, zq_j, zq_k, zq_l, zq_m, zq_n, zq_o, zq_p, zq_q, zq_r, zq_s, zq_t, zq_u, zq_v, zq_w, zq_x, zq_y, zq_z, zq_A, zq_B, zq_C, zq_D, zq_E, zq_F, zq_G, zq_H, zq_I, zq_J, zq_K, zq_L, ↓zq_M, ↓zq_N, ↓zq_O, ↓zq_P, ↓zq_Q, ↓zq_R, zq_S, zq_T, zq_U, zq_V, zq_W, zq_X, zq_Y, zq_Z, zq_0, zq_1, zq_2, zq_3, zq_4, zq_5, ↓zq_6, ↓zq_7, ↓zq_8, ↓zq_9, ↓zq_aa, zq_ab, zq_ac, zq_ad, zq_ae, zq_af, zq_ag, ↓zq_ah, ↓zq_ai, ↓zq_aj, zq_ak, ↓zq_al, ↓zq_am, e_b1, e_b2, x_o1, x_o2, r_O4, r_O5, ls, q, q_n, w1, w2, le, ip, kk, c2]
      · have ip := r_ip0 hW c1
        refine ⟨-13, ?_, Or.inr rfl, fun h => absurd h (by decide)⟩
        rw [E_V_eq]
        show e_tv E_C (E_V 238) e_t238_37 [192, d, 0, x3, x4, x5] M = _
        unfold e_t238_37
        simp [zq_a, zq_b, zq_c, zq_d, zq_e, zq_f, zq_g, zq_h, zq_i, zq_j, zq_k, zq_l, zq_m, zq_n, zq_o, zq_p, zq_q, zq_r, zq_s, zq_t, zq_u, zq_v, zq_w, zq_x, zq_y, zq_z, zq_A, zq_B, zq_C, zq_D, zq_E, zq_F, zq_G, zq_H, zq_I, zq_J, zq_K, zq_L, ↓zq_M, ↓zq_N, ↓zq_O, ↓zq_P, ↓zq_Q, ↓zq_R, zq_S, zq_T, zq_U, zq_V, zq_W, zq_X, zq_Y, zq_Z, zq_0, zq_1, zq_2, zq_3, zq_4, zq_5, ↓zq_6, ↓zq_7, ↓zq_8, ↓zq_9, ↓zq_aa, zq_ab, zq_ac, zq_ad, zq_ae, zq_af, zq_ag, ↓zq_ah, ↓zq_ai, ↓zq_aj, zq_ak, ↓zq_al, ↓zq_am, e_b1, e_b2, x_o1, x_o2, r_O4, r_O5, ls, q, q_n, w1, w2, le, ip]
    · exact hend x3 x4 x5 q hc h3
theorem r_wrongParting {d : Int} {M : EM} (hJ : r_J M) : ∃ r, E_C 238 [192, d] M = some (r, M) ∧ (r = 0 → (0 ≤ d ∧ d ≤ 7) ∧ 2 ≤ M 197 d.toNat ∧ M 197 d.toNat ≤ 8 ∧ r_cells M d (M 197 d.toNat)) := by
  obtain ⟨n, kn, -, hn⟩ := r_wrongRow d 0 M
  by_cases q : n = 0
  · subst q
    have hd := hn rfl
    have ls := (r_isD d M hd).2.2.1
    by_cases q1 : 2 ≤ M 197 d.toNat ∧ M 197 d.toNat ≤ 8
    · have i1 := r_in1 (M := M) q1
      obtain ⟨r, k, -, hr⟩ := r_wp_out hJ hd 120 0 0 0 (by decide) (by decide) (fun k k0 k1 => by omega) (by omega)
      refine ⟨r, ?_, fun h => ⟨hd, q1.1, q1.2, hr h⟩⟩
      rw [r_ent (show e_rok 238 [192, d] = true from decide_eq_true r_ref)]
      show e_tv E_C (E_V 238) e_t238_0 [192, d, 0, 0, 0, 0] M = _
      unfold e_t238_0
      simp [zq_a, zq_b, zq_c, zq_d, zq_e, zq_f, zq_g, zq_h, zq_i, zq_j, zq_k, zq_l, zq_m, zq_n, zq_o, zq_p, zq_q, zq_r, zq_s, zq_t, zq_u, zq_v, zq_w, zq_x, zq_y, zq_z, zq_A, zq_B, zq_C, zq_D, zq_E, zq_F, zq_G, zq_H, zq_I, zq_J, zq_K, zq_L, ↓zq_M, ↓zq_N, ↓zq_O, ↓zq_P, ↓zq_Q, ↓zq_R, zq_S, zq_T, zq_U, zq_V, zq_W, zq_X, zq_Y, zq_Z, zq_0, zq_1, zq_2, zq_3, zq_4, zq_5, ↓zq_6, ↓zq_7, ↓zq_8, ↓zq_9, ↓zq_aa, zq_ab, zq_ac, zq_ad, zq_ae, zq_af, zq_ag, ↓zq_ah, ↓zq_ai, ↓zq_aj, zq_ak, ↓zq_al, ↓zq_am, e_b1, e_b2, x_o1, x_o2, r_O4, kn, ls, i1, k]
    · have i1 := r_in0 (M := M) q1
      refine ⟨-13, ?_, fun h => absurd h (by decide)⟩
      rw [r_ent (show e_rok 238 [192, d] = true from decide_eq_true r_ref)]
      show e_tv E_C (E_V 238) e_t238_0 [192, d, 0, 0, 0, 0] M = _
      unfold e_t238_0
      simp [zq_a, zq_b, zq_c, zq_d, zq_e, zq_f, zq_g, zq_h, zq_i, zq_j, zq_k, zq_l, zq_m, zq_n, zq_o, zq_p, zq_q, zq_r, zq_s, zq_t, zq_u, zq_v, zq_w, zq_x, zq_y, zq_z, zq_A, zq_B, zq_C, zq_D, zq_E, zq_F, zq_G, zq_H, zq_I, zq_J, zq_K, zq_L, ↓zq_M, ↓zq_N, ↓zq_O, ↓zq_P, ↓zq_Q, ↓zq_R, zq_S, zq_T, zq_U, zq_V, zq_W, zq_X, zq_Y, zq_Z, zq_0, zq_1, zq_2, zq_3, zq_4, zq_5, ↓zq_6, ↓zq_7, ↓zq_8, ↓zq_9, ↓zq_aa, zq_ab, zq_ac, zq_ad, zq_ae, zq_af, zq_ag, ↓zq_ah, ↓zq_ai, ↓zq_aj, zq_ak, ↓zq_al, ↓zq_am, e_b1, e_b2, x_o1, x_o2, r_O4, kn, ls, i1]
  · refine ⟨n, ?_, fun h => absurd h q⟩
    rw [r_ent (show e_rok 238 [192, d] = true from decide_eq_true r_ref)]
    show e_tv E_C (E_V 238) e_t238_0 [192, d, 0, 0, 0, 0] M = _
    unfold e_t238_0
    simp [zq_a, zq_b, zq_c, zq_d, zq_e, zq_f, zq_g, zq_h, zq_i, zq_j, zq_k, zq_l, zq_m, zq_n, zq_o, zq_p, zq_q, zq_r, zq_s, zq_t, zq_u, zq_v, zq_w, zq_x, zq_y, zq_z, zq_A, zq_B, zq_C, zq_D, zq_E, zq_F, zq_G, zq_H, zq_I, zq_J, zq_K, zq_L, ↓zq_M, ↓zq_N, ↓zq_O, ↓zq_P, ↓zq_Q, ↓zq_R, zq_S, zq_T, zq_U, zq_V, zq_W, zq_X, zq_Y, zq_Z, zq_0, zq_1, zq_2, zq_3, zq_4, zq_5, ↓zq_6, ↓zq_7, ↓zq_8, ↓zq_9, ↓zq_aa, zq_ab, zq_ac, zq_ad, zq_ae, zq_af, zq_ag, ↓zq_ah, ↓zq_ai, ↓zq_aj, zq_ak, ↓zq_al, ↓zq_am, e_b1, e_b2, x_o1, x_o2, kn, q]
theorem r_e5 {M : EM} {k : Nat} {v : Int} (hk : k < 1000) (hv : -2147483648 ≤ v ∧ v ≤ 2147483647) (hJ : r_J M) : r_J (e_up M 205 k v) ∧ a_fr r_wq M (e_up M 205 k v) := r_qarr (n := 999) (by decide) (by omega) hv hJ
theorem r_e6 {M : EM} {k : Nat} {v : Int} (hk : k < 100) (hv : -2147483648 ≤ v ∧ v ≤ 2147483647) (hJ : r_J M) : r_J (e_up M 206 k v) ∧ a_fr r_wq M (e_up M 206 k v) := r_qarr (n := 99) (by decide) (by omega) hv hJ
theorem r_ev_J {M M' : EM} (hJ : r_J M) (h : r_ev M M') : r_J M' := r_J_q hJ h.1 (r_evq h) (by rw [r_ev_same h (by decide) (by decide)]; exact hJ.2.2.2.2)
theorem r_gset_in {S n x3 : Int} (hn : n ≤ 8) (h3 : 0 ≤ x3 ∧ x3 < 100) (H : ∀ M, r_J M → ∀ x4, ∃ M', E_V 239 2 [192, S, n, x3 + 1, x4] M = some (0, M') ∧ r_J M' ∧ a_fr r_wq M M') : ∀ (m : Nat) (x4 : Int) (M : EM), r_J M → (n - x4).toNat ≤ m → 0 ≤ x4 → ∃ M', E_V 239 18 [192, S, n, x3, x4] M = some (0, M') ∧ r_J M' ∧ a_fr r_wq M M' := by
  have w0 : e_w (x3 + 1) = x3 + 1 := a_w_id (by omega) (by omega)
  have hend : ∀ x4 M, r_J M → ¬ (x4 < n) → ∃ M', E_V 239 18 [192, S, n, x3, x4] M = some (0, M') ∧ r_J M' ∧ a_fr r_wq M M' := by
    intro x4 M hJ q
    obtain ⟨M', k, t⟩ := H M hJ x4
    refine ⟨M', ?_, t⟩
    rw [E_V_eq]
    show e_tv E_C (E_V 239) e_t239_18 [192, S, n, x3, x4] M = _
    unfold e_t239_18
    simp [zq_a, zq_b, zq_c, zq_d, zq_e, zq_f, zq_g, zq_h, zq_i, zq_j, zq_k, zq_l, zq_m, zq_n, zq_o, zq_p, zq_q, zq_r, zq_s, zq_t, zq_u, zq_v, zq_w, zq_x, zq_y, zq_z, zq_A, zq_B, zq_C, zq_D, zq_E, zq_F, zq_G, zq_H, zq_I, zq_J, zq_K, zq_L, ↓zq_M, ↓zq_N, ↓zq_O, ↓zq_P, ↓zq_Q, ↓zq_R, zq_S, zq_T, zq_U, zq_V, zq_W, zq_X, zq_Y, zq_Z, zq_0, zq_1, zq_2, zq_3, zq_4, zq_5, ↓zq_6, ↓zq_7, ↓zq_8, ↓zq_9, ↓zq_aa, zq_ab, zq_ac, zq_ad, zq_ae, zq_af, zq_ag, ↓zq_ah, ↓zq_ai, ↓zq_aj, zq_ak, ↓zq_al, ↓zq_am, e_b1, e_b2, x_o1, x_o2, q, w0, k]
  intro m
  induction m with
  | zero => intro x4 M hJ hm h0; exact hend x4 M hJ (by omega)
  | succ m ih =>
    intro x4 M hJ hm h0
    rcases x_lt x4 n with ⟨q, q_n⟩ | ⟨q, q_n⟩
    · have w1 : e_w (100 * x4) = 100 * x4 := a_w_id (by omega) (by omega)
      have w2 : e_w (100 * x4 + x3) = 100 * x4 + x3 := a_w_id (by omega) (by omega)
      have w4 : e_w (x4 + 1) = x4 + 1 := a_w_id (by omega) (by omega)
      have g1 := r_rd6 (M := M) h3.1 h3.2
      have g2 : e_op 60 [209, 100 * x4 + x3] M = some (M 209 (100 * x4 + x3).toNat) := r_rdA (a := 209) (n := 799) (by decide) (by decide) (by decide +kernel) (by omega) (by omega)
      by_cases c : e_bit (fun x y => x &&& y) (e_bit (fun x y => x >>> (y &&& 31)) S x4) 1 = 1
      · obtain ⟨u1, u2⟩ := r_e6 (M := M) (k := x3.toNat) (v := e_w (M 206 x3.toNat + M 209 (100 * x4 + x3).toNat)) (by omega) (a_w _) hJ
        obtain ⟨M', k, t1, t2⟩ := ih (x4 + 1) _ u1 (by omega) (by omega)
        refine ⟨M', ?_, t1, a_fr_tr u2 t2⟩
        rw [E_V_eq]
        show e_tv E_C (E_V 239) e_t239_18 [192, S, n, x3, x4] M = _
        unfold e_t239_18
        simp [zq_a, zq_b, zq_c, zq_d, zq_e, zq_f, zq_g, zq_h, zq_i, zq_j, zq_k, zq_l, zq_m, zq_n, zq_o, zq_p, zq_q, zq_r, zq_s, zq_t, zq_u, zq_v, zq_w, zq_x, zq_y, zq_z, zq_A, zq_B, zq_C, zq_D, zq_E, zq_F, zq_G, zq_H, zq_I, zq_J, zq_K, zq_L, ↓zq_M, ↓zq_N, ↓zq_O, ↓zq_P, ↓zq_Q, ↓zq_R, zq_S, zq_T, zq_U, zq_V, zq_W, zq_X, zq_Y, zq_Z, zq_0, zq_1, zq_2, zq_3, zq_4, zq_5, ↓zq_6, ↓zq_7, ↓zq_8, ↓zq_9, ↓zq_aa, zq_ab, zq_ac, zq_ad, zq_ae, zq_af, zq_ag, ↓zq_ah, ↓zq_ai, ↓zq_aj, zq_ak, ↓zq_al, ↓zq_am, e_b1, e_b2, x_o1, x_o2, r_O26, r_O36, q, q_n, w1, w2, w4, g1, g2, c, r_st6 h3.1 h3.2, k]
      · obtain ⟨u1, u2⟩ := r_e6 (M := M) (k := x3.toNat) (v := e_w (M 206 x3.toNat + 0)) (by omega) (a_w _) hJ
        obtain ⟨M', k, t1, t2⟩ := ih (x4 + 1) _ u1 (by omega) (by omega)
        refine ⟨M', ?_, t1, a_fr_tr u2 t2⟩
        rw [Int.add_zero] at k
        rw [E_V_eq]
        show e_tv E_C (E_V 239) e_t239_18 [192, S, n, x3, x4] M = _
        unfold e_t239_18
        simp [zq_a, zq_b, zq_c, zq_d, zq_e, zq_f, zq_g, zq_h, zq_i, zq_j, zq_k, zq_l, zq_m, zq_n, zq_o, zq_p, zq_q, zq_r, zq_s, zq_t, zq_u, zq_v, zq_w, zq_x, zq_y, zq_z, zq_A, zq_B, zq_C, zq_D, zq_E, zq_F, zq_G, zq_H, zq_I, zq_J, zq_K, zq_L, ↓zq_M, ↓zq_N, ↓zq_O, ↓zq_P, ↓zq_Q, ↓zq_R, zq_S, zq_T, zq_U, zq_V, zq_W, zq_X, zq_Y, zq_Z, zq_0, zq_1, zq_2, zq_3, zq_4, zq_5, ↓zq_6, ↓zq_7, ↓zq_8, ↓zq_9, ↓zq_aa, zq_ab, zq_ac, zq_ad, zq_ae, zq_af, zq_ag, ↓zq_ah, ↓zq_ai, ↓zq_aj, zq_ak, ↓zq_al, ↓zq_am, e_b1, e_b2, x_o1, x_o2, r_O26, r_O36, q, q_n, w4, g1, c, r_st6 h3.1 h3.2, k]
    · exact hend x4 M hJ q
theorem r_gset_out {S n : Int} (hn : n ≤ 8) : ∀ (m : Nat) (x3 x4 : Int) (M : EM), r_J M → (100 - x3).toNat ≤ m → 0 ≤ x3 → ∃ M', E_V 239 2 [192, S, n, x3, x4] M = some (0, M') ∧ r_J M' ∧ a_fr r_wq M M' := by
  have hend : ∀ x3 x4 M, r_J M → ¬ (x3 < 100) → ∃ M', E_V 239 2 [192, S, n, x3, x4] M = some (0, M') ∧ r_J M' ∧ a_fr r_wq M M' := by
    intro x3 x4 M hJ q
    obtain ⟨M', k, e⟩ := r_givesBy hJ.1
    refine ⟨M', ?_, r_ev_J hJ e, r_evq e⟩
    rw [E_V_eq]
    show e_tv E_C (E_V 239) e_t239_2 [192, S, n, x3, x4] M = _
    unfold e_t239_2
    simp [zq_a, zq_b, zq_c, zq_d, zq_e, zq_f, zq_g, zq_h, zq_i, zq_j, zq_k, zq_l, zq_m, zq_n, zq_o, zq_p, zq_q, zq_r, zq_s, zq_t, zq_u, zq_v, zq_w, zq_x, zq_y, zq_z, zq_A, zq_B, zq_C, zq_D, zq_E, zq_F, zq_G, zq_H, zq_I, zq_J, zq_K, zq_L, ↓zq_M, ↓zq_N, ↓zq_O, ↓zq_P, ↓zq_Q, ↓zq_R, zq_S, zq_T, zq_U, zq_V, zq_W, zq_X, zq_Y, zq_Z, zq_0, zq_1, zq_2, zq_3, zq_4, zq_5, ↓zq_6, ↓zq_7, ↓zq_8, ↓zq_9, ↓zq_aa, zq_ab, zq_ac, zq_ad, zq_ae, zq_af, zq_ag, ↓zq_ah, ↓zq_ai, ↓zq_aj, zq_ak, ↓zq_al, ↓zq_am, e_b1, e_b2, x_o1, x_o2, q, k]
  intro m
  induction m with
  | zero => intro x3 x4 M hJ hm h0; exact hend x3 x4 M hJ (by omega)
  | succ m ih =>
    intro x3 x4 M hJ hm h0
    rcases x_lt x3 100 with ⟨q, q_n⟩ | ⟨q, q_n⟩
    · obtain ⟨u1, u2⟩ := r_e6 (M := M) (k := x3.toNat) (v := 0) (by omega) (by decide) hJ
      obtain ⟨M', k, t1, t2⟩ := r_gset_in (S := S) hn ⟨h0, q⟩ (fun M1 j1 y4 => ih (x3 + 1) y4 M1 j1 (by omega) (by omega)) _ 0 _ u1 (Nat.le_refl _) (by decide)
      refine ⟨M', ?_, t1, a_fr_tr u2 t2⟩
      rw [E_V_eq]
      show e_tv E_C (E_V 239) e_t239_2 [192, S, n, x3, x4] M = _
      unfold e_t239_2
      simp [zq_a, zq_b, zq_c, zq_d, zq_e, zq_f, zq_g, zq_h, zq_i, zq_j, zq_k, zq_l, zq_m, zq_n, zq_o, zq_p, zq_q, zq_r, zq_s, zq_t, zq_u, zq_v, zq_w, zq_x, zq_y, zq_z, zq_A, zq_B, zq_C, zq_D, zq_E, zq_F, zq_G, zq_H, zq_I, zq_J, zq_K, zq_L, ↓zq_M, ↓zq_N, ↓zq_O, ↓zq_P, ↓zq_Q, ↓zq_R, zq_S, zq_T, zq_U, zq_V, zq_W, zq_X, zq_Y, zq_Z, zq_0, zq_1, zq_2, zq_3, zq_4, zq_5, ↓zq_6, ↓zq_7, ↓zq_8, ↓zq_9, ↓zq_aa, zq_ab, zq_ac, zq_ad, zq_ae, zq_af, zq_ag, ↓zq_ah, ↓zq_ai, ↓zq_aj, zq_ak, ↓zq_al, ↓zq_am, e_b1, e_b2, x_o1, x_o2, r_O26, q, q_n, r_st6 h0 q, q_n, k]
    · exact hend x3 x4 M hJ q
theorem r_givesSet {S n : Int} {M : EM} (hn : n ≤ 8) (hJ : r_J M) : ∃ M', E_C 239 [192, S, n] M = some (0, M') ∧ r_J M' ∧ a_fr r_wq M M' := by
  obtain ⟨M', k, t⟩ := r_gset_out (S := S) hn 100 0 0 M hJ (by decide) (by decide)
  refine ⟨M', ?_, t⟩
  rw [r_ent (show e_rok 239 [192, S, n] = true from decide_eq_true r_ref)]
  show e_tv E_C (E_V 239) e_t239_0 [192, S, n, 0, 0] M = _
  unfold e_t239_0
  simp [zq_a, zq_b, zq_c, zq_d, zq_e, zq_f, zq_g, zq_h, zq_i, zq_j, zq_k, zq_l, zq_m, zq_n, zq_o, zq_p, zq_q, zq_r, zq_s, zq_t, zq_u, zq_v, zq_w, zq_x, zq_y, zq_z, zq_A, zq_B, zq_C, zq_D, zq_E, zq_F, zq_G, zq_H, zq_I, zq_J, zq_K, zq_L, ↓zq_M, ↓zq_N, ↓zq_O, ↓zq_P, ↓zq_Q, ↓zq_R, zq_S, zq_T, zq_U, zq_V, zq_W, zq_X, zq_Y, zq_Z, zq_0, zq_1, zq_2, zq_3, zq_4, zq_5, ↓zq_6, ↓zq_7, ↓zq_8, ↓zq_9, ↓zq_aa, zq_ab, zq_ac, zq_ad, zq_ae, zq_af, zq_ag, ↓zq_ah, ↓zq_ai, ↓zq_aj, zq_ak, ↓zq_al, ↓zq_am, e_b1, e_b2, x_o1, x_o2, k]
theorem r_shl8 {n : Int} (h : 2 ≤ n ∧ n ≤ 8) : 0 ≤ e_bit (fun x y => x <<< (y &&& 31)) 1 n ∧ e_bit (fun x y => x <<< (y &&& 31)) 1 n ≤ 256 := by
  have key : ∀ k : Fin 9, 0 ≤ e_bit (fun x y => x <<< (y &&& 31)) 1 (k.val : Int) ∧ e_bit (fun x y => x <<< (y &&& 31)) 1 (k.val : Int) ≤ 256 := by decide +kernel
  have := key ⟨n.toNat, by omega⟩
  rwa [show ((⟨n.toNat, by omega⟩ : Fin 9).val : Int) = n from Int.toNat_of_nonneg (by omega)] at this
theorem r_pz_in {d w n x5 x6 S : Int} (hn : 2 ≤ n ∧ n ≤ 8) (hS : 0 ≤ S ∧ S ≤ 1000) (H : ∀ M, r_J M → ∀ y5 y6 y8, ∃ r M', E_V 240 104 [192, d, w, 0, n, y5, y6, S + 2, y8] M = some (r, M') ∧ r_J M' ∧ a_fr r_wq M M') : ∀ (m : Nat) (x8 : Int) (M : EM), r_J M → (1000 - x8).toNat ≤ m → 0 ≤ x8 → ∃ r M', E_V 240 116 [192, d, w, 0, n, x5, x6, S, x8] M = some (r, M') ∧ r_J M' ∧ a_fr r_wq M M' := by
  have w2 : e_w (S + 2) = S + 2 := a_w_id (by omega) (by omega)
  have hend : ∀ x8 M, r_J M → ¬ (x8 < 1000) → ∃ r M', E_V 240 116 [192, d, w, 0, n, x5, x6, S, x8] M = some (r, M') ∧ r_J M' ∧ a_fr r_wq M M' := by
    intro x8 M hJ q
    obtain ⟨M1, k1, t1, t2⟩ := r_givesSet (S := S) hn.2 hJ
    obtain ⟨M2, k2, u1, u2⟩ := r_givesSet (S := e_bit (fun x y => x &&& y) (e_w (e_bit (fun x y => x <<< (y &&& 31)) 1 n - 1)) (e_bit (fun x y => x ^^^ y) S (-1))) hn.2 t1
    obtain ⟨b, kb, hb⟩ := r_bestOf u1.1
    have g1 := r_rd5 (M := M2) hb.1 (by omega)
    have hgo : ∀ y5 y6, ∃ r M', E_V 240 203 [192, d, w, 0, n, y5, y6, S, b] M2 = some (r, M') ∧ r_J M' ∧ a_fr r_wq M2 M' := by
      intro y5 y6
      obtain ⟨r, M', k, t⟩ := H M2 u1 y5 y6 b
      refine ⟨r, M', ?_, t⟩
      rw [E_V_eq]
      show e_tv E_C (E_V 240) e_t240_203 [192, d, w, 0, n, y5, y6, S, b] M2 = _
      unfold e_t240_203
      simp [zq_a, zq_b, zq_c, zq_d, zq_e, zq_f, zq_g, zq_h, zq_i, zq_j, zq_k, zq_l, zq_m, zq_n, zq_o, zq_p, zq_q, zq_r, zq_s, zq_t, zq_u, zq_v, zq_w, zq_x, zq_y, zq_z, zq_A, zq_B, zq_C, zq_D, zq_E, zq_F, zq_G, zq_H, zq_I, zq_J, zq_K, zq_L, ↓zq_M, ↓zq_N, ↓zq_O, ↓zq_P, ↓zq_Q, ↓zq_R, zq_S, zq_T, zq_U, zq_V, zq_W, zq_X, zq_Y, zq_Z, zq_0, zq_1, zq_2, zq_3, zq_4, zq_5, ↓zq_6, ↓zq_7, ↓zq_8, ↓zq_9, ↓zq_aa, zq_ab, zq_ac, zq_ad, zq_ae, zq_af, zq_ag, ↓zq_ah, ↓zq_ai, ↓zq_aj, zq_ak, ↓zq_al, ↓zq_am, e_b1, e_b2, x_o1, x_o2, w2, k]
    rcases x_le (e_w (b * M2 205 b.toNat)) x6 with ⟨c, c_n⟩ | ⟨c, c_n⟩
    · obtain ⟨r, M', k, v1, v2⟩ := hgo x5 x6
      refine ⟨r, M', ?_, v1, a_fr_tr t2 (a_fr_tr u2 v2)⟩
      rw [E_V_eq]
      show e_tv E_C (E_V 240) e_t240_116 [192, d, w, 0, n, x5, x6, S, x8] M = _
      unfold e_t240_116
      simp [zq_a, zq_b, zq_c, zq_d, zq_e, zq_f, zq_g, zq_h, zq_i, zq_j, zq_k, zq_l, zq_m, zq_n, zq_o, zq_p, zq_q, zq_r, zq_s, zq_t, zq_u, zq_v, zq_w, zq_x, zq_y, zq_z, zq_A, zq_B, zq_C, zq_D, zq_E, zq_F, zq_G, zq_H, zq_I, zq_J, zq_K, zq_L, ↓zq_M, ↓zq_N, ↓zq_O, ↓zq_P, ↓zq_Q, ↓zq_R, zq_S, zq_T, zq_U, zq_V, zq_W, zq_X, zq_Y, zq_Z, zq_0, zq_1, zq_2, zq_3, zq_4, zq_5, ↓zq_6, ↓zq_7, ↓zq_8, ↓zq_9, ↓zq_aa, zq_ab, zq_ac, zq_ad, zq_ae, zq_af, zq_ag, ↓zq_ah, ↓zq_ai, ↓zq_aj, zq_ak, ↓zq_al, ↓zq_am, e_b1, e_b2, x_o1, x_o2, r_O25, q, k1, k2, kb, g1, c, c_n, k]
    · obtain ⟨r, M', k, v1, v2⟩ := hgo S (e_w (b * M2 205 b.toNat))
      refine ⟨r, M', ?_, v1, a_fr_tr t2 (a_fr_tr u2 v2)⟩
      rw [E_V_eq]
      show e_tv E_C (E_V 240) e_t240_116 [192, d, w, 0, n, x5, x6, S, x8] M = _
      unfold e_t240_116
      simp [zq_a, zq_b, zq_c, zq_d, zq_e, zq_f, zq_g, zq_h, zq_i, zq_j, zq_k, zq_l, zq_m, zq_n, zq_o, zq_p, zq_q, zq_r, zq_s, zq_t, zq_u, zq_v, zq_w, zq_x, zq_y, zq_z, zq_A, zq_B, zq_C, zq_D, zq_E, zq_F, zq_G, zq_H, zq_I, zq_J, zq_K, zq_L, ↓zq_M, ↓zq_N, ↓zq_O, ↓zq_P, ↓zq_Q, ↓zq_R, zq_S, zq_T, zq_U, zq_V, zq_W, zq_X, zq_Y, zq_Z, zq_0, zq_1, zq_2, zq_3, zq_4, zq_5, ↓zq_6, ↓zq_7, ↓zq_8, ↓zq_9, ↓zq_aa, zq_ab, zq_ac, zq_ad, zq_ae, zq_af, zq_ag, ↓zq_ah, ↓zq_ai, ↓zq_aj, zq_ak, ↓zq_al, ↓zq_am, e_b1, e_b2, x_o1, x_o2, r_O25, q, k1, k2, kb, g1, c, c_n, k]
  intro m
  induction m with
  | zero => intro x8 M hJ hm h0; exact hend x8 M hJ (by omega)
  | succ m ih =>
    intro x8 M hJ hm h0
    rcases x_lt x8 1000 with ⟨q, q_n⟩ | ⟨q, q_n⟩
    · have w4 : e_w (x8 + 1) = x8 + 1 := a_w_id (by omega) (by omega)
      obtain ⟨u1, u2⟩ := r_e5 (M := M) (k := x8.toNat) (v := 0) (by omega) (by decide) hJ
      obtain ⟨r, M', k, t1, t2⟩ := ih (x8 + 1) _ u1 (by omega) (by omega)
      refine ⟨r, M', ?_, t1, a_fr_tr u2 t2⟩
      rw [E_V_eq]
      show e_tv E_C (E_V 240) e_t240_116 [192, d, w, 0, n, x5, x6, S, x8] M = _
      unfold e_t240_116
      simp [zq_a, zq_b, zq_c, zq_d, zq_e, zq_f, zq_g, zq_h, zq_i, zq_j, zq_k, zq_l, zq_m, zq_n, zq_o, zq_p, zq_q, zq_r, zq_s, zq_t, zq_u, zq_v, zq_w, zq_x, zq_y, zq_z, zq_A, zq_B, zq_C, zq_D, zq_E, zq_F, zq_G, zq_H, zq_I, zq_J, zq_K, zq_L, ↓zq_M, ↓zq_N, ↓zq_O, ↓zq_P, ↓zq_Q, ↓zq_R, zq_S, zq_T, zq_U, zq_V, zq_W, zq_X, zq_Y, zq_Z, zq_0, zq_1, zq_2, zq_3, zq_4, zq_5, ↓zq_6, ↓zq_7, ↓zq_8, ↓zq_9, ↓zq_aa, zq_ab, zq_ac, zq_ad, zq_ae, zq_af, zq_ag, ↓zq_ah, ↓zq_ai, ↓zq_aj, zq_ak, ↓zq_al, ↓zq_am, e_b1, e_b2, x_o1, x_o2, r_O25, q, q_n, w4, r_st5 h0 q, q_n, k]
    · exact hend x8 M hJ q
theorem r_pz_out {d w n : Int} (hn : 2 ≤ n ∧ n ≤ 8) : ∀ (m : Nat) (x5 x6 S x8 : Int) (M : EM), r_J M → (260 - S).toNat ≤ m → 0 ≤ S → ∃ r M', E_V 240 104 [192, d, w, 0, n, x5, x6, S, x8] M = some (r, M') ∧ r_J M' ∧ a_fr r_wq M M' := by
  have hb := r_shl8 hn
  have hend : ∀ x5 x6 S x8 M, r_J M → ¬ (S < e_bit (fun x y => x <<< (y &&& 31)) 1 n) → ∃ r M', E_V 240 104 [192, d, w, 0, n, x5, x6, S, x8] M = some (r, M') ∧ r_J M' ∧ a_fr r_wq M M' := by
    intro x5 x6 S x8 M hJ q
    by_cases c : w = 0
    · refine ⟨x6, M, ?_, hJ, a_fr_rf⟩
      rw [E_V_eq]
      show e_tv E_C (E_V 240) e_t240_104 [192, d, w, 0, n, x5, x6, S, x8] M = _
      unfold e_t240_104
      simp [zq_a, zq_b, zq_c, zq_d, zq_e, zq_f, zq_g, zq_h, zq_i, zq_j, zq_k, zq_l, zq_m, zq_n, zq_o, zq_p, zq_q, zq_r, zq_s, zq_t, zq_u, zq_v, zq_w, zq_x, zq_y, zq_z, zq_A, zq_B, zq_C, zq_D, zq_E, zq_F, zq_G, zq_H, zq_I, zq_J, zq_K, zq_L, ↓zq_M, ↓zq_N, ↓zq_O, ↓zq_P, ↓zq_Q, ↓zq_R, zq_S, zq_T, zq_U, zq_V, zq_W, zq_X, zq_Y, zq_Z, zq_0, zq_1, zq_2, zq_3, zq_4, zq_5, ↓zq_6, ↓zq_7, ↓zq_8, ↓zq_9, ↓zq_aa, zq_ab, zq_ac, zq_ad, zq_ae, zq_af, zq_ag, ↓zq_ah, ↓zq_ai, ↓zq_aj, zq_ak, ↓zq_al, ↓zq_am, e_b1, e_b2, x_o1, x_o2, q, c]
    · refine ⟨x5, M, ?_, hJ, a_fr_rf⟩
      rw [E_V_eq]
      show e_tv E_C (E_V 240) e_t240_104 [192, d, w, 0, n, x5, x6, S, x8] M = _
      unfold e_t240_104
      simp [zq_a, zq_b, zq_c, zq_d, zq_e, zq_f, zq_g, zq_h, zq_i, zq_j, zq_k, zq_l, zq_m, zq_n, zq_o, zq_p, zq_q, zq_r, zq_s, zq_t, zq_u, zq_v, zq_w, zq_x, zq_y, zq_z, zq_A, zq_B, zq_C, zq_D, zq_E, zq_F, zq_G, zq_H, zq_I, zq_J, zq_K, zq_L, ↓zq_M, ↓zq_N, ↓zq_O, ↓zq_P, ↓zq_Q, ↓zq_R, zq_S, zq_T, zq_U, zq_V, zq_W, zq_X, zq_Y, zq_Z, zq_0, zq_1, zq_2, zq_3, zq_4, zq_5, ↓zq_6, ↓zq_7, ↓zq_8, ↓zq_9, ↓zq_aa, zq_ab, zq_ac, zq_ad, zq_ae, zq_af, zq_ag, ↓zq_ah, ↓zq_ai, ↓zq_aj, zq_ak, ↓zq_al, ↓zq_am, e_b1, e_b2, x_o1, x_o2, q, c]
  intro m
  induction m with
  | zero => intro x5 x6 S x8 M hJ hm h0; exact hend x5 x6 S x8 M hJ (by omega)
  | succ m ih =>
    intro x5 x6 S x8 M hJ hm h0
    by_cases q : S < e_bit (fun x y => x <<< (y &&& 31)) 1 n
    · obtain ⟨r, M', k, t⟩ := r_pz_in (d := d) (w := w) (x5 := x5) (x6 := x6) hn ⟨h0, by omega⟩ (fun M1 j1 y5 y6 y8 => ih y5 y6 (S + 2) y8 M1 j1 (by omega) (by omega)) 1000 0 M hJ (by decide) (by decide)
      refine ⟨r, M', ?_, t⟩
      rw [E_V_eq]
      show e_tv E_C (E_V 240) e_t240_104 [192, d, w, 0, n, x5, x6, S, x8] M = _
      unfold e_t240_104
      simp [zq_a, zq_b, zq_c, zq_d, zq_e, zq_f, zq_g, zq_h, zq_i, zq_j, zq_k, zq_l, zq_m, zq_n, zq_o, zq_p, zq_q, zq_r, zq_s, zq_t, zq_u, zq_v, zq_w, zq_x, zq_y, zq_z, zq_A, zq_B, zq_C, zq_D, zq_E, zq_F, zq_G, zq_H, zq_I, zq_J, zq_K, zq_L, ↓zq_M, ↓zq_N, ↓zq_O, ↓zq_P, ↓zq_Q, ↓zq_R, zq_S, zq_T, zq_U, zq_V, zq_W, zq_X, zq_Y, zq_Z, zq_0, zq_1, zq_2, zq_3, zq_4, zq_5, ↓zq_6, ↓zq_7, ↓zq_8, ↓zq_9, ↓zq_aa, zq_ab, zq_ac, zq_ad, zq_ae, zq_af, zq_ag, ↓zq_ah, ↓zq_ai, ↓zq_aj, zq_ak, ↓zq_al, ↓zq_am, e_b1, e_b2, x_o1, x_o2, q, k]
    · exact hend x5 x6 S x8 M hJ q
theorem r_q_same {M M' : EM} (h : a_fr r_wq M M') {id k : Nat} (hi : 193 ≤ id ∧ id ≤ 201) : M' id k = M id k := r_wq_out h (by omega)
theorem r_pt_in {d w n x5 : Int} (hd : 0 ≤ d ∧ d ≤ 7) (hn : 2 ≤ n ∧ n ≤ 8) (h5 : 0 ≤ x5 ∧ x5 < n) (H : ∀ M, r_J M → r_cells M d n → ∀ y6 y7 y8, ∃ r M', E_V 240 35 [192, d, w, 0, n, x5 + 1, y6, y7, y8] M = some (r, M') ∧ r_J M' ∧ a_fr r_wq M M') : ∀ (m : Nat) (x6 x7 x8 : Int) (M : EM), r_J M → r_cells M d n → (100 - x6).toNat ≤ m → 0 ≤ x6 → ∃ r M', E_V 240 45 [192, d, w, 0, n, x5, x6, x7, x8] M = some (r, M') ∧ r_J M' ∧ a_fr r_wq M M' := by
  have w0 : e_w (x5 + 1) = x5 + 1 := a_w_id (by omega) (by omega)
  have hend : ∀ x6 x7 x8 M, r_J M → r_cells M d n → ¬ (x6 < 100) → ∃ r M', E_V 240 45 [192, d, w, 0, n, x5, x6, x7, x8] M = some (r, M') ∧ r_J M' ∧ a_fr r_wq M M' := by
    intro x6 x7 x8 M hJ hc q
    obtain ⟨r, M', k, t⟩ := H M hJ hc x6 x7 x8
    refine ⟨r, M', ?_, t⟩
    rw [E_V_eq]
    show e_tv E_C (E_V 240) e_t240_45 [192, d, w, 0, n, x5, x6, x7, x8] M = _
    unfold e_t240_45
    simp [zq_a, zq_b, zq_c, zq_d, zq_e, zq_f, zq_g, zq_h, zq_i, zq_j, zq_k, zq_l, zq_m, zq_n, zq_o, zq_p, zq_q, zq_r, zq_s, zq_t, zq_u, zq_v, zq_w, zq_x, zq_y, zq_z, zq_A, zq_B, zq_C, zq_D, zq_E, zq_F, zq_G, zq_H, zq_I, zq_J, zq_K, zq_L, ↓zq_M, ↓zq_N, ↓zq_O, ↓zq_P, ↓zq_Q, ↓zq_R, zq_S, zq_T, zq_U, zq_V, zq_W, zq_X, zq_Y, zq_Z, zq_0, zq_1, zq_2, zq_3, zq_4, zq_5, ↓zq_6, ↓zq_7, ↓zq_8, ↓zq_9, ↓zq_aa, zq_ab, zq_ac, zq_ad, zq_ae, zq_af, zq_ag, ↓zq_ah, ↓zq_ai, ↓zq_aj, zq_ak, ↓zq_al, ↓zq_am, e_b1, e_b2, x_o1, x_o2, q, w0, k]
  intro m
  induction m with
  | zero => intro x6 x7 x8 M hJ hc hm h0; exact hend x6 x7 x8 M hJ hc (by omega)
  | succ m ih =>
    intro x6 x7 x8 M hJ hc hm h0
    rcases x_lt x6 100 with ⟨q, q_n⟩ | ⟨q, q_n⟩
    · have w1 : e_w (120 * d) = 120 * d := a_w_id (by omega) (by omega)
      have w2 : e_w (120 * d + x5) = 120 * d + x5 := a_w_id (by omega) (by omega)
      have w3 : e_w (100 * x5) = 100 * x5 := a_w_id (by omega) (by omega)
      have w4 : e_w (100 * x5 + x6) = 100 * x5 + x6 := a_w_id (by omega) (by omega)
      have w5 : e_w (x6 + 1) = x6 + 1 := a_w_id (by omega) (by omega)
      have le := r_rdE (i := 120 * d + x5) (M := M) (by omega) (by omega)
      obtain ⟨l, kl, hl⟩ := r_lowPush (b := 40) (c := x6) (r_J_E hJ) (by decide) (Or.inl (hc x5 h5.1 h5.2))
      obtain ⟨u1, u2⟩ := r_qarr (a := 209) (n := 799) (k := (100 * x5 + x6).toNat) (by decide) (by omega) hl hJ
      have st : e_st 100 [209, 100 * x5 + x6, l] M = some (e_up M 209 (100 * x5 + x6).toNat l) := r_stA (a := 209) (n := 799) (by decide) (by decide) (by decide +kernel) (by omega) (by omega)
      have hc' : r_cells (e_up M 209 (100 * x5 + x6).toNat l) d n := by
        unfold r_cells
        rw [r_q_G u2]
        intro k k0 k1
        rw [r_q_same u2 (by decide)]
        exact hc k k0 k1
      obtain ⟨r, M', k, t1, t2⟩ := ih (x6 + 1) x7 x8 _ u1 hc' (by omega) (by omega)
      refine ⟨r, M', ?_, t1, a_fr_tr u2 t2⟩
      rw [E_V_eq]
      show e_tv E_C (E_V 240) e_t240_45 [192, d, w, 0, n, x5, x6, x7, x8] M = _
      unfold e_t240_45
      simp [zq_a, zq_b, zq_c, zq_d, zq_e, zq_f, zq_g, zq_h, zq_i, zq_j, zq_k, zq_l, zq_m, zq_n, zq_o, zq_p, zq_q, zq_r, zq_s, zq_t, zq_u, zq_v, zq_w, zq_x, zq_y, zq_z, zq_A, zq_B, zq_C, zq_D, zq_E, zq_F, zq_G, zq_H, zq_I, zq_J, zq_K, zq_L, ↓zq_M, ↓zq_N, ↓zq_O, ↓zq_P, ↓zq_Q, ↓zq_R, zq_S, zq_T, zq_U, zq_V, zq_W, zq_X, zq_Y, zq_Z, zq_0, zq_1, zq_2, zq_3, zq_4, zq_5, ↓zq_6, ↓zq_7, ↓zq_8, ↓zq_9, ↓zq_aa, zq_ab, zq_ac, zq_ad, zq_ae, zq_af, zq_ag, ↓zq_ah, ↓zq_ai, ↓zq_aj, zq_ak, ↓zq_al, ↓zq_am, e_b1, e_b2, x_o1, x_o2, r_O5, r_O36, q, q_n, w1, w2, w3, w4, w5, le, kl, st, k]
    · exact hend x6 x7 x8 M hJ hc q
theorem r_pt_out {d w n : Int} (hd : 0 ≤ d ∧ d ≤ 7) (hn : 2 ≤ n ∧ n ≤ 8) : ∀ (m : Nat) (x5 x6 x7 x8 : Int) (M : EM), r_J M → r_cells M d n → (8 - x5).toNat ≤ m → 0 ≤ x5 → ∃ r M', E_V 240 35 [192, d, w, 0, n, x5, x6, x7, x8] M = some (r, M') ∧ r_J M' ∧ a_fr r_wq M M' := by
  have hend : ∀ x5 x6 x7 x8 M, r_J M → r_cells M d n → ¬ (x5 < n) → ∃ r M', E_V 240 35 [192, d, w, 0, n, x5, x6, x7, x8] M = some (r, M') ∧ r_J M' ∧ a_fr r_wq M M' := by
    intro x5 x6 x7 x8 M hJ hc q
    obtain ⟨r, M', k, t⟩ := r_pz_out (d := d) (w := w) hn 258 0 (-1) 2 x8 M hJ (by decide) (by decide)
    refine ⟨r, M', ?_, t⟩
    rw [E_V_eq]
    show e_tv E_C (E_V 240) e_t240_35 [192, d, w, 0, n, x5, x6, x7, x8] M = _
    unfold e_t240_35
    simp [zq_a, zq_b, zq_c, zq_d, zq_e, zq_f, zq_g, zq_h, zq_i, zq_j, zq_k, zq_l, zq_m, zq_n, zq_o, zq_p, zq_q, zq_r, zq_s, zq_t, zq_u, zq_v, zq_w, zq_x, zq_y, zq_z, zq_A, zq_B, zq_C, zq_D, zq_E, zq_F, zq_G, zq_H, zq_I, zq_J, zq_K, zq_L, ↓zq_M, ↓zq_N, ↓zq_O, ↓zq_P, ↓zq_Q, ↓zq_R, zq_S, zq_T, zq_U, zq_V, zq_W, zq_X, zq_Y, zq_Z, zq_0, zq_1, zq_2, zq_3, zq_4, zq_5, ↓zq_6, ↓zq_7, ↓zq_8, ↓zq_9, ↓zq_aa, zq_ab, zq_ac, zq_ad, zq_ae, zq_af, zq_ag, ↓zq_ah, ↓zq_ai, ↓zq_aj, zq_ak, ↓zq_al, ↓zq_am, e_b1, e_b2, x_o1, x_o2, q, k]
  intro m
  induction m with
  | zero => intro x5 x6 x7 x8 M hJ hc hm h0; exact hend x5 x6 x7 x8 M hJ hc (by omega)
  | succ m ih =>
    intro x5 x6 x7 x8 M hJ hc hm h0
    rcases x_lt x5 n with ⟨q, q_n⟩ | ⟨q, q_n⟩
    · obtain ⟨r, M', k, t⟩ := r_pt_in (w := w) hd hn ⟨h0, q⟩ (fun M1 j1 c1 y6 y7 y8 => ih (x5 + 1) y6 y7 y8 M1 j1 c1 (by omega) (by omega)) 100 0 x7 x8 M hJ hc (by decide) (by decide)
      refine ⟨r, M', ?_, t⟩
      rw [E_V_eq]
      show e_tv E_C (E_V 240) e_t240_35 [192, d, w, 0, n, x5, x6, x7, x8] M = _
      unfold e_t240_35
      simp [zq_a, zq_b, zq_c, zq_d, zq_e, zq_f, zq_g, zq_h, zq_i, zq_j, zq_k, zq_l, zq_m, zq_n, zq_o, zq_p, zq_q, zq_r, zq_s, zq_t, zq_u, zq_v, zq_w, zq_x, zq_y, zq_z, zq_A, zq_B, zq_C, zq_D, zq_E, zq_F, zq_G, zq_H, zq_I, zq_J, zq_K, zq_L, ↓zq_M, ↓zq_N, ↓zq_O, ↓zq_P, ↓zq_Q, ↓zq_R, zq_S, zq_T, zq_U, zq_V, zq_W, zq_X, zq_Y, zq_Z, zq_0, zq_1, zq_2, zq_3, zq_4, zq_5, ↓zq_6, ↓zq_7, ↓zq_8, ↓zq_9, ↓zq_aa, zq_ab, zq_ac, zq_ad, zq_ae, zq_af, zq_ag, ↓zq_ah, ↓zq_ai, ↓zq_aj, zq_ak, ↓zq_al, ↓zq_am, e_b1, e_b2, x_o1, x_o2, q, q_n, k]
    · exact hend x5 x6 x7 x8 M hJ hc q
theorem r_parting {d w : Int} {M : EM} (hJ : r_J M) : r_Q 240 [192, d, w] M := by
  by_cases q0 : 0 ≤ w ∧ w ≤ 1
  · have i0 := r_in1 (M := M) q0
    obtain ⟨n, kn, hn⟩ := r_wrongParting (d := d) hJ
    by_cases q : n = 0
    · subst q
      obtain ⟨hd, h2, h8, hc⟩ := hn rfl
      have ls := (r_isD d M hd).2.2.1
      obtain ⟨r, M', k, t1, t2⟩ := r_pt_out (w := w) hd ⟨h2, h8⟩ 8 0 0 0 0 M hJ hc (by decide) (by decide)
      refine ⟨r, M', ?_, t1.1, t2, t1.2.2.2.2⟩
      rw [r_ent (show e_rok 240 [192, d, w] = true from decide_eq_true r_ref)]
      show e_tv E_C (E_V 240) e_t240_0 [192, d, w, 0, 0, 0, 0, 0, 0] M = _
      unfold e_t240_0
      simp [zq_a, zq_b, zq_c, zq_d, zq_e, zq_f, zq_g, zq_h, zq_i, zq_j, zq_k, zq_l, zq_m, zq_n, zq_o, zq_p, zq_q, zq_r, zq_s, zq_t, zq_u, zq_v, zq_w, zq_x, zq_y, zq_z, zq_A, zq_B, zq_C, zq_D, zq_E, zq_F, zq_G, zq_H, zq_I, zq_J, zq_K, zq_L, ↓zq_M, ↓zq_N, ↓zq_O, ↓zq_P, ↓zq_Q, ↓zq_R, zq_S, zq_T, zq_U, zq_V, zq_W, zq_X, zq_Y, zq_Z, zq_0, zq_1, zq_2, zq_3, zq_4, zq_5, ↓zq_6, ↓zq_7, ↓zq_8, ↓zq_9, ↓zq_aa, zq_ab, zq_ac, zq_ad, zq_ae, zq_af, zq_ag, ↓zq_ah, ↓zq_ai, ↓zq_aj, zq_ak, ↓zq_al, ↓zq_am, e_b1, e_b2, x_o1, x_o2, r_O4, i0, kn, ls, k]
    · refine r_same (r := n) hJ ?_
      rw [r_ent (show e_rok 240 [192, d, w] = true from decide_eq_true r_ref)]
      show e_tv E_C (E_V 240) e_t240_0 [192, d, w, 0, 0, 0, 0, 0, 0] M = _
      unfold e_t240_0
      simp [zq_a, zq_b, zq_c, zq_d, zq_e, zq_f, zq_g, zq_h, zq_i, zq_j, zq_k, zq_l, zq_m, zq_n, zq_o, zq_p, zq_q, zq_r, zq_s, zq_t, zq_u, zq_v, zq_w, zq_x, zq_y, zq_z, zq_A, zq_B, zq_C, zq_D, zq_E, zq_F, zq_G, zq_H, zq_I, zq_J, zq_K, zq_L, ↓zq_M, ↓zq_N, ↓zq_O, ↓zq_P, ↓zq_Q, ↓zq_R, zq_S, zq_T, zq_U, zq_V, zq_W, zq_X, zq_Y, zq_Z, zq_0, zq_1, zq_2, zq_3, zq_4, zq_5, ↓zq_6, ↓zq_7, ↓zq_8, ↓zq_9, ↓zq_aa, zq_ab, zq_ac, zq_ad, zq_ae, zq_af, zq_ag, ↓zq_ah, ↓zq_ai, ↓zq_aj, zq_ak, ↓zq_al, ↓zq_am, e_b1, e_b2, x_o1, x_o2, i0, kn, q]
  · have i0 := r_in0 (M := M) q0
    refine r_same (r := -1) hJ ?_
    rw [r_ent (show e_rok 240 [192, d, w] = true from decide_eq_true r_ref)]
    show e_tv E_C (E_V 240) e_t240_0 [192, d, w, 0, 0, 0, 0, 0, 0] M = _
    unfold e_t240_0
    simp [zq_a, zq_b, zq_c, zq_d, zq_e, zq_f, zq_g, zq_h, zq_i, zq_j, zq_k, zq_l, zq_m, zq_n, zq_o, zq_p, zq_q, zq_r, zq_s, zq_t, zq_u, zq_v, zq_w, zq_x, zq_y, zq_z, zq_A, zq_B, zq_C, zq_D, zq_E, zq_F, zq_G, zq_H, zq_I, zq_J, zq_K, zq_L, ↓zq_M, ↓zq_N, ↓zq_O, ↓zq_P, ↓zq_Q, ↓zq_R, zq_S, zq_T, zq_U, zq_V, zq_W, zq_X, zq_Y, zq_Z, zq_0, zq_1, zq_2, zq_3, zq_4, zq_5, ↓zq_6, ↓zq_7, ↓zq_8, ↓zq_9, ↓zq_aa, zq_ab, zq_ac, zq_ad, zq_ae, zq_af, zq_ag, ↓zq_ah, ↓zq_ai, ↓zq_aj, zq_ak, ↓zq_al, ↓zq_am, e_b1, e_b2, x_o1, x_o2, i0]
