/-! PARTING by the reference -/
section PR
variable {M K : EM} {n mN : Nat} {E : Nat → Int} {v : Nat → Nat → Int}
theorem pr_84 {d x2 x4 : Int} {k : Nat} {x3 : Int} (hd : d = mN) (m8 : mN < 8) (hk : x3 = k) (k120 : k < 120) (hE : ∀ i, i ≤ k → M 198 (120 * mN + i) = E i) (h4 : x4 = E k) : ∀ (t j : Nat) (x5 : Int), x5 = j → j + t = k → (∀ i, i < j → E i ≠ E k) → (E_V 238 84 [192, d, x2, x3, x4, x5] M = some (-13, M) ∧ ∃ i, i < k ∧ E i = E k) ∨ ∃ y, E_V 238 84 [192, d, x2, x3, x4, x5] M = E_V 238 37 [192, d, x2, x3 + 1, x4, y] M ∧ ∀ i, i < k → E i ≠ E k := by
  have w0 : e_w (x3 + 1) = x3 + 1 := a_w_id (by omega) (by omega)
  have w1 : e_w (120 * d) = 120 * d := a_w_id (by omega) (by omega)
  intro t
  induction t with
  | zero =>
    intro j x5 h5 hj hne
    have e : j = k := by omega
    subst e
    refine Or.inr ⟨x5, ?_, hne⟩
    have q : ¬ (x5 < x3) := by omega
    clear hne hE h4
    rw [E_V_eq]
    show e_tv E_C (E_V 238) e_t238_84 [192, d, x2, x3, x4, x5] M = _
    unfold e_t238_84
    simp [zq_a, zq_b, zq_c, zq_d, zq_e, zq_f, zq_g, zq_h, zq_i, zq_j, zq_k, zq_l, zq_m, zq_n, zq_o, zq_p, zq_q, zq_r, zq_s, zq_t, zq_u, zq_v, zq_w, zq_x, zq_y, zq_z, zq_A, zq_B, zq_C, zq_D, zq_E, zq_F, zq_G, zq_H, zq_I, zq_J, zq_K, zq_L, ↓zq_M, ↓zq_N, ↓zq_O, ↓zq_P, ↓zq_Q, ↓zq_R, zq_S, zq_T, zq_U, zq_V, zq_W, zq_X, zq_Y, zq_Z, zq_0, zq_1, zq_2, zq_3, zq_4, zq_5, ↓zq_6, ↓zq_7, ↓zq_8, ↓zq_9, ↓zq_aa, zq_ab, zq_ac, zq_ad, zq_ae, zq_af, zq_ag, ↓zq_ah, ↓zq_ai, ↓zq_aj, zq_ak, ↓zq_al, ↓zq_am, e_b1, e_b2, x_o1, x_o2, q, w0]
  | succ t ih =>
    intro j x5 h5 hj hne
    have q : x5 < x3 := by omega
    have w2 : e_w (120 * d + x5) = 120 * d + x5 := a_w_id (by omega) (by omega)
    have w4 : e_w (x5 + 1) = x5 + 1 := a_w_id (by omega) (by omega)
    have le : e_op 60 [198, 120 * d + x5] M = some (E j) := (r_rdE (by omega) (by omega)).trans (congrArg some (by rw [show (120 * d + x5).toNat = 120 * mN + j by omega, hE j (by omega)]))
    by_cases c : E j = E k
    · refine Or.inl ⟨?_, j, by omega, c⟩
      rw [c, ← h4] at le
      clear hne hE ih h4
      rw [E_V_eq]
      show e_tv E_C (E_V 238) e_t238_84 [192, d, x2, x3, x4, x5] M = _
      unfold e_t238_84
      simp [zq_a, zq_b, zq_c, zq_d, zq_e, zq_f, zq_g, zq_h, zq_i, zq_j, zq_k, zq_l, zq_m, zq_n, zq_o, zq_p, zq_q, zq_r, zq_s, zq_t, zq_u, zq_v, zq_w, zq_x, zq_y, zq_z, zq_A, zq_B, zq_C, zq_D, zq_E, zq_F, zq_G, zq_H, zq_I, zq_J, zq_K, zq_L, ↓zq_M, ↓zq_N, ↓zq_O, ↓zq_P, ↓zq_Q, ↓zq_R, zq_S, zq_T, zq_U, zq_V, zq_W, zq_X, zq_Y, zq_Z, zq_0, zq_1, zq_2, zq_3, zq_4, zq_5, ↓zq_6, ↓zq_7, ↓zq_8, ↓zq_9, ↓zq_aa, zq_ab, zq_ac, zq_ad, zq_ae, zq_af, zq_ag, ↓zq_ah, ↓zq_ai, ↓zq_aj, zq_ak, ↓zq_al, ↓zq_am, e_b1, e_b2, x_o1, x_o2, r_O5, q, w1, w2, le]
    · have c' : ¬ E j = x4 := by rw [h4]; exact c
      have s : E_V 238 84 [192, d, x2, x3, x4, x5] M = E_V 238 84 [192, d, x2, x3, x4, x5 + 1] M := by
        clear hne hE ih h4 c
        generalize E j = ej at *
        rw [E_V_eq]
        show e_tv E_C (E_V 238) e_t238_84 [192, d, x2, x3, x4, x5] M = _
        unfold e_t238_84
        simp [zq_a, zq_b, zq_c, zq_d, zq_e, zq_f, zq_g, zq_h, zq_i, zq_j, zq_k, zq_l, zq_m, zq_n, zq_o, zq_p, zq_q, zq_r, zq_s, zq_t, zq_u, zq_v, zq_w, zq_x, zq_y, zq_z, zq_A, zq_B, zq_C, zq_D, zq_E, zq_F, zq_G, zq_H, zq_I, zq_J, zq_K, zq_L, ↓zq_M, ↓zq_N, ↓zq_O, ↓zq_P, ↓zq_Q, ↓zq_R, zq_S, zq_T, zq_U, zq_V, zq_W, zq_X, zq_Y, zq_Z, zq_0, zq_1, zq_2, zq_3, zq_4, zq_5, ↓zq_6, ↓zq_7, ↓zq_8, ↓zq_9, ↓zq_aa, zq_ab, zq_ac, zq_ad, zq_ae, zq_af, zq_ag, ↓zq_ah, ↓zq_ai, ↓zq_aj, zq_ak, ↓zq_al, ↓zq_am, e_b1, e_b2, x_o1, x_o2, r_O5, q, w1, w2, w4, le, c']
      rw [s]
      exact ih (j + 1) (x5 + 1) (by omega) (by omega) (fun i hi => by
        by_cases e : i = j
        · rw [e]; exact c
        · exact hne i (by omega))
theorem pr_238 {g : Int → Int} {d : Int} (hG : r_G M = g) (J1 : r_J M) (h : h_no M d 0 = 0) (hd : d = mN) (m8 : mN < 8) (h7 : M 197 mN = n) (hn : n ≤ 120) (hE : ∀ k, k < n → M 198 (120 * mN + k) = E k) : ∃ z, E_C 238 [192, d] M = some (z, M) ∧ (z = 0 ∨ z = -13) ∧ (z = 0 ↔ pt_g g E n) := by
  have hW := (r_J_E J1).2.1
  have hW' := hW
  rw [hG] at hW'
  have kn := h_189 (d := d) (w := 0) (M := M) (by decide)
  rw [h] at kn
  have ls := (r_isD d M ⟨by omega, by omega⟩).2.2.1
  rw [show d.toNat = mN by omega, h7] at ls
  have w1 : e_w (120 * d) = 120 * d := a_w_id (by omega) (by omega)
  have lp : ∀ (t k : Nat) (x2 x3 x4 x5 : Int), x3 = k → k + t = n → (∀ j, j < k → ((0 ≤ E j ∧ E j < g 1198) ∧ g (28 * E j) = 0) ∧ ∀ i, i < j → E i ≠ E j) → ∃ z, E_V 238 37 [192, d, x2, x3, x4, x5] M = some (z, M) ∧ (z = 0 ∨ z = -13) ∧ (z = 0 ↔ ∀ j, j < n → ((0 ≤ E j ∧ E j < g 1198) ∧ g (28 * E j) = 0) ∧ ∀ i, i < j → E i ≠ E j) := by
    intro t
    induction t with
    | zero =>
      intro k x2 x3 x4 x5 h3 hk hg
      have e : k = n := by omega
      subst e
      refine ⟨0, ?_, Or.inl rfl, fun _ => hg, fun _ => rfl⟩
      have q : ¬ (x3 < (k : Int)) := by omega
      clear hg hE
      generalize (k : Int) = nn at *
      rw [E_V_eq]
      show e_tv E_C (E_V 238) e_t238_37 [192, d, x2, x3, x4, x5] M = _
      unfold e_t238_37
      simp [zq_a, zq_b, zq_c, zq_d, zq_e, zq_f, zq_g, zq_h, zq_i, zq_j, zq_k, zq_l, zq_m, zq_n, zq_o, zq_p, zq_q, zq_r, zq_s, zq_t, zq_u, zq_v, zq_w, zq_x, zq_y, zq_z, zq_A, zq_B, zq_C, zq_D, zq_E, zq_F, zq_G, zq_H, zq_I, zq_J, zq_K, zq_L, ↓zq_M, ↓zq_N, ↓zq_O, ↓zq_P, ↓zq_Q, ↓zq_R, zq_S, zq_T, zq_U, zq_V, zq_W, zq_X, zq_Y, zq_Z, zq_0, zq_1, zq_2, zq_3, zq_4, zq_5, ↓zq_6, ↓zq_7, ↓zq_8, ↓zq_9, ↓zq_aa, zq_ab, zq_ac, zq_ad, zq_ae, zq_af, zq_ag, ↓zq_ah, ↓zq_ai, ↓zq_aj, zq_ak, ↓zq_al, ↓zq_am, e_b1, e_b2, x_o1, x_o2, r_O4, ls, q]
    | succ t ih =>
      intro k x2 x3 x4 x5 h3 hk hg
      have q : x3 < (n : Int) := by omega
      have w2 : e_w (120 * d + x3) = 120 * d + x3 := a_w_id (by omega) (by omega)
      have le : e_op 60 [198, 120 * d + x3] M = some (E k) := (r_rdE (by omega) (by omega)).trans (congrArg some (by rw [show (120 * d + x3).toNat = 120 * mN + k by omega, hE k (by omega)]))
      have bad : ¬ (((0 ≤ E k ∧ E k < g 1198) ∧ g (28 * E k) = 0) ∧ ∀ i, i < k → E i ≠ E k) → ¬ ∀ j, j < n → ((0 ≤ E j ∧ E j < g 1198) ∧ g (28 * E j) = 0) ∧ ∀ i, i < j → E i ≠ E j := fun h h' => h (h' k (by omega))
      by_cases c1 : 0 ≤ E k ∧ E k < g 1198
      · have ip := r_ip1 (p := E k) hW (by rw [hG]; exact c1)
        have kk : E_C 170 [192, E k] M = some (g (28 * E k), M) := by
          rw [← hG]
          exact r_kind ⟨c1.1, by have := hW'.2.1; omega⟩
        by_cases c2 : g (28 * E k) = 0
        · rw [c2] at kk
          have k84 := pr_84 (x2 := x2) (x4 := E k) hd m8 h3 (by omega) (fun i hi => hE i (by omega)) rfl k 0 0 rfl (by omega) (fun i h => absurd h (Nat.not_lt_zero _))
          rcases k84 with ⟨k84, i, i1, i2⟩ | ⟨y, k84, ne⟩
          · refine ⟨-13, ?_, Or.inr rfl, fun h => absurd h (by decide), fun h => absurd h (bad (fun h => h.2 i i1 i2))⟩
            clear bad ih hg hE c1 c2
            generalize (n : Int) = nn at *
            generalize E k = ek at *
            rw [E_V_eq]
            show e_tv E_C (E_V 238) e_t238_37 [192, d, x2, x3, x4, x5] M = _
            unfold e_t238_37
            simp [zq_a, zq_b, zq_c, zq_d, zq_e, zq_f, zq_g, zq_h, zq_i, zq_j, zq_k, zq_l, zq_m, zq_n, zq_o, zq_p, zq_q, zq_r, zq_s, zq_t, zq_u, zq_v, zq_w, zq_x, zq_y, zq_z, zq_A, zq_B, zq_C, zq_D, zq_E, zq_F, zq_G, zq_H, zq_I, zq_J, zq_K, zq_L, ↓zq_M, ↓zq_N, ↓zq_O, ↓zq_P, ↓zq_Q, ↓zq_R, zq_S, zq_T, zq_U, zq_V, zq_W, zq_X, zq_Y, zq_Z, zq_0, zq_1, zq_2, zq_3, zq_4, zq_5, ↓zq_6, ↓zq_7, ↓zq_8, ↓zq_9, ↓zq_aa, zq_ab, zq_ac, zq_ad, zq_ae, zq_af, zq_ag, ↓zq_ah, ↓zq_ai, ↓zq_aj, zq_ak, ↓zq_al, ↓zq_am, e_b1, e_b2, x_o1, x_o2, r_O4, r_O5, ls, q, w1, w2, le, ip, kk, k84]
          · obtain ⟨z, kz, z1, z2⟩ := ih (k + 1) x2 (x3 + 1) (E k) y (by omega) (by omega) (fun j hj => by
              by_cases ej : j = k
              · subst ej
                exact ⟨⟨c1, c2⟩, ne⟩
              · exact hg j (by omega))
            refine ⟨z, ?_, z1, z2⟩
            rw [← kz, ← k84]
            clear bad ih hg hE c1 c2 k84 kz ne
            generalize (n : Int) = nn at *
            generalize E k = ek at *
            rw [E_V_eq]
            show e_tv E_C (E_V 238) e_t238_37 [192, d, x2, x3, x4, x5] M = _
            unfold e_t238_37
            simp [zq_a, zq_b, zq_c, zq_d, zq_e, zq_f, zq_g, zq_h, zq_i, zq_j, zq_k, zq_l, zq_m, zq_n, zq_o, zq_p, zq_q, zq_r, zq_s, zq_t, zq_u, zq_v, zq_w, zq_x, zq_y, zq_z, zq_A, zq_B, zq_C, zq_D, zq_E, zq_F, zq_G, zq_H, zq_I, zq_J, zq_K, zq_L, ↓zq_M, ↓zq_N, ↓zq_O, ↓zq_P, ↓zq_Q, ↓zq_R, zq_S, zq_T, zq_U, zq_V, zq_W, zq_X, zq_Y, zq_Z, zq_0, zq_1, zq_2, zq_3, zq_4, zq_5, ↓zq_6, ↓zq_7, ↓zq_8, ↓zq_9, ↓zq_aa, zq_ab, zq_ac, zq_ad, zq_ae, zq_af, zq_ag, ↓zq_ah, ↓zq_ai, ↓zq_aj, zq_ak, ↓zq_al, ↓zq_am, e_b1, e_b2, x_o1, x_o2, r_O4, r_O5, ls, q, w1, w2, le, ip, kk]
        · refine ⟨-13, ?_, Or.inr rfl, fun h => absurd h (by decide), fun h => absurd h (bad (fun h => c2 h.1.2))⟩
          clear bad ih hg hE c1
          generalize g (28 * E k) = gk at *
          generalize (n : Int) = nn at *
          generalize E k = ek at *
          rw [E_V_eq]
          show e_tv E_C (E_V 238) e_t238_37 [192, d, x2, x3, x4, x5] M = _
          unfold e_t238_37
          simp [zq_a, zq_b, zq_c, zq_d, zq_e, zq_f, zq_g, zq_h, zq_i, zq_j, zq_k, zq_l, zq_m, zq_n, zq_o, zq_p, zq_q, zq_r, zq_s, zq_t, zq_u, zq_v, zq_w, zq_x, zq_y, zq_z, zq_A, zq_B, zq_C, zq_D, zq_E, zq_F, zq_G, zq_H, zq_I, zq_J, zq_K, zq_L, ↓zq_M, ↓zq_N, ↓zq_O, ↓zq_P, ↓zq_Q, ↓zq_R, zq_S, zq_T, zq_U, zq_V, zq_W, zq_X, zq_Y, zq_Z, zq_0, zq_1, zq_2, zq_3, zq_4, zq_5, ↓zq_6, ↓zq_7, ↓zq_8, ↓zq_9, ↓zq_aa, zq_ab, zq_ac, zq_ad, zq_ae, zq_af, zq_ag, ↓zq_ah, ↓zq_ai, ↓zq_aj, zq_ak, ↓zq_al, ↓zq_am, e_b1, e_b2, x_o1, x_o2, r_O4, r_O5, ls, q, w1, w2, le, ip, kk, c2]
      · have ip := r_ip0 (p := E k) hW (by rw [hG]; exact c1)
        refine ⟨-13, ?_, Or.inr rfl, fun h => absurd h (by decide), fun h => absurd h (bad (fun h => c1 h.1.1))⟩
        clear bad ih hg hE c1
        generalize (n : Int) = nn at *
        generalize E k = ek at *
        rw [E_V_eq]
        show e_tv E_C (E_V 238) e_t238_37 [192, d, x2, x3, x4, x5] M = _
        unfold e_t238_37
        simp [zq_a, zq_b, zq_c, zq_d, zq_e, zq_f, zq_g, zq_h, zq_i, zq_j, zq_k, zq_l, zq_m, zq_n, zq_o, zq_p, zq_q, zq_r, zq_s, zq_t, zq_u, zq_v, zq_w, zq_x, zq_y, zq_z, zq_A, zq_B, zq_C, zq_D, zq_E, zq_F, zq_G, zq_H, zq_I, zq_J, zq_K, zq_L, ↓zq_M, ↓zq_N, ↓zq_O, ↓zq_P, ↓zq_Q, ↓zq_R, zq_S, zq_T, zq_U, zq_V, zq_W, zq_X, zq_Y, zq_Z, zq_0, zq_1, zq_2, zq_3, zq_4, zq_5, ↓zq_6, ↓zq_7, ↓zq_8, ↓zq_9, ↓zq_aa, zq_ab, zq_ac, zq_ad, zq_ae, zq_af, zq_ag, ↓zq_ah, ↓zq_ai, ↓zq_aj, zq_ak, ↓zq_al, ↓zq_am, e_b1, e_b2, x_o1, x_o2, r_O4, r_O5, ls, q, w1, w2, le, ip]
  by_cases c : 2 ≤ (n : Int) ∧ (n : Int) ≤ 8
  · have i1 := r_in1 (M := M) c
    obtain ⟨z, kz, z1, z2⟩ := lp n 0 0 0 0 0 rfl (by omega) (fun j h => absurd h (Nat.not_lt_zero _))
    refine ⟨z, ?_, z1, fun h => ⟨by omega, z2.mp h⟩, fun h => z2.mpr h.2⟩
    clear lp hE z1 z2 c
    generalize (n : Int) = nn at *
    rw [r_ent (show e_rok 238 [192, d] = true from decide_eq_true r_ref)]
    show e_tv E_C (E_V 238) e_t238_0 [192, d, 0, 0, 0, 0] M = _
    unfold e_t238_0
    simp [zq_a, zq_b, zq_c, zq_d, zq_e, zq_f, zq_g, zq_h, zq_i, zq_j, zq_k, zq_l, zq_m, zq_n, zq_o, zq_p, zq_q, zq_r, zq_s, zq_t, zq_u, zq_v, zq_w, zq_x, zq_y, zq_z, zq_A, zq_B, zq_C, zq_D, zq_E, zq_F, zq_G, zq_H, zq_I, zq_J, zq_K, zq_L, ↓zq_M, ↓zq_N, ↓zq_O, ↓zq_P, ↓zq_Q, ↓zq_R, zq_S, zq_T, zq_U, zq_V, zq_W, zq_X, zq_Y, zq_Z, zq_0, zq_1, zq_2, zq_3, zq_4, zq_5, ↓zq_6, ↓zq_7, ↓zq_8, ↓zq_9, ↓zq_aa, zq_ab, zq_ac, zq_ad, zq_ae, zq_af, zq_ag, ↓zq_ah, ↓zq_ai, ↓zq_aj, zq_ak, ↓zq_al, ↓zq_am, e_b1, e_b2, x_o1, x_o2, r_O4, kn, ls, i1, kz]
  · have i1 := r_in0 (M := M) c
    refine ⟨-13, ?_, Or.inr rfl, fun h => absurd h (by decide), fun h => absurd h.1 (by omega)⟩
    clear lp hE c
    generalize (n : Int) = nn at *
    rw [r_ent (show e_rok 238 [192, d] = true from decide_eq_true r_ref)]
    show e_tv E_C (E_V 238) e_t238_0 [192, d, 0, 0, 0, 0] M = _
    unfold e_t238_0
    simp [zq_a, zq_b, zq_c, zq_d, zq_e, zq_f, zq_g, zq_h, zq_i, zq_j, zq_k, zq_l, zq_m, zq_n, zq_o, zq_p, zq_q, zq_r, zq_s, zq_t, zq_u, zq_v, zq_w, zq_x, zq_y, zq_z, zq_A, zq_B, zq_C, zq_D, zq_E, zq_F, zq_G, zq_H, zq_I, zq_J, zq_K, zq_L, ↓zq_M, ↓zq_N, ↓zq_O, ↓zq_P, ↓zq_Q, ↓zq_R, zq_S, zq_T, zq_U, zq_V, zq_W, zq_X, zq_Y, zq_Z, zq_0, zq_1, zq_2, zq_3, zq_4, zq_5, ↓zq_6, ↓zq_7, ↓zq_8, ↓zq_9, ↓zq_aa, zq_ab, zq_ac, zq_ad, zq_ae, zq_af, zq_ag, ↓zq_ah, ↓zq_ai, ↓zq_aj, zq_ak, ↓zq_al, ↓zq_am, e_b1, e_b2, x_o1, x_o2, r_O4, kn, ls, i1]
theorem pr_238n {d : Int} (h : h_no M d 0 ≠ 0) : E_C 238 [192, d] M = some (h_no M d 0, M) := by
  have kn := h_189 (d := d) (w := 0) (M := M) (by decide)
  generalize h_no M d 0 = z at *
  rw [r_ent (show e_rok 238 [192, d] = true from decide_eq_true r_ref)]
  show e_tv E_C (E_V 238) e_t238_0 [192, d, 0, 0, 0, 0] M = _
  unfold e_t238_0
  simp [zq_a, zq_b, zq_c, zq_d, zq_e, zq_f, zq_g, zq_h, zq_i, zq_j, zq_k, zq_l, zq_m, zq_n, zq_o, zq_p, zq_q, zq_r, zq_s, zq_t, zq_u, zq_v, zq_w, zq_x, zq_y, zq_z, zq_A, zq_B, zq_C, zq_D, zq_E, zq_F, zq_G, zq_H, zq_I, zq_J, zq_K, zq_L, ↓zq_M, ↓zq_N, ↓zq_O, ↓zq_P, ↓zq_Q, ↓zq_R, zq_S, zq_T, zq_U, zq_V, zq_W, zq_X, zq_Y, zq_Z, zq_0, zq_1, zq_2, zq_3, zq_4, zq_5, ↓zq_6, ↓zq_7, ↓zq_8, ↓zq_9, ↓zq_aa, zq_ab, zq_ac, zq_ad, zq_ae, zq_af, zq_ag, ↓zq_ah, ↓zq_ai, ↓zq_aj, zq_ak, ↓zq_al, ↓zq_am, e_b1, e_b2, x_o1, x_o2, kn, h]
/-- the table of PUSHES -/
def pr_T (v : Nat → Nat → Int) (n : Nat) (K : EM) : Prop := ∀ j c : Nat, j < n → c < 100 → K 209 (100 * j + c) = v j c
theorem pr_18s {S nn x3 x4 a q ia ib z s1 : Int} {na : Nat} {J : EM} (q1 : x4 < nn) (w1 : e_w (100 * x4) = ia) (w2 : e_w (ia + x3) = ib) (w4 : e_w (x4 + 1) = s1) (g1 : e_op 60 [206, x3] J = some a) (g2 : e_op 60 [209, ib] J = some q) (bt : e_bit (fun x y => x &&& y) (e_bit (fun x y => x >>> (y &&& 31)) S x4) 1 = 1) (w5 : e_w (a + q) = z) (st : e_st 100 [206, x3, z] J = some (e_up J 206 na z)) : E_V 239 18 [192, S, nn, x3, x4] J = E_V 239 18 [192, S, nn, x3, s1] (e_up J 206 na z) := by
  rw [E_V_eq]
  show e_tv E_C (E_V 239) e_t239_18 [192, S, nn, x3, x4] J = _
  unfold e_t239_18
  simp [zq_a, zq_b, zq_c, zq_d, zq_e, zq_f, zq_g, zq_h, zq_i, zq_j, zq_k, zq_l, zq_m, zq_n, zq_o, zq_p, zq_q, zq_r, zq_s, zq_t, zq_u, zq_v, zq_w, zq_x, zq_y, zq_z, zq_A, zq_B, zq_C, zq_D, zq_E, zq_F, zq_G, zq_H, zq_I, zq_J, zq_K, zq_L, ↓zq_M, ↓zq_N, ↓zq_O, ↓zq_P, ↓zq_Q, ↓zq_R, zq_S, zq_T, zq_U, zq_V, zq_W, zq_X, zq_Y, zq_Z, zq_0, zq_1, zq_2, zq_3, zq_4, zq_5, ↓zq_6, ↓zq_7, ↓zq_8, ↓zq_9, ↓zq_aa, zq_ab, zq_ac, zq_ad, zq_ae, zq_af, zq_ag, ↓zq_ah, ↓zq_ai, ↓zq_aj, zq_ak, ↓zq_al, ↓zq_am, e_b1, e_b2, x_o1, x_o2, r_O26, r_O36, q1, w1, w2, w4, g1, g2, bt, w5, st]
theorem pr_18z {S nn x3 x4 a s1 : Int} {na : Nat} {J : EM} (q1 : x4 < nn) (w4 : e_w (x4 + 1) = s1) (g1 : e_op 60 [206, x3] J = some a) (bt : e_bit (fun x y => x &&& y) (e_bit (fun x y => x >>> (y &&& 31)) S x4) 1 = 0) (w5 : e_w a = a) (st : e_st 100 [206, x3, a] J = some (e_up J 206 na a)) : E_V 239 18 [192, S, nn, x3, x4] J = E_V 239 18 [192, S, nn, x3, s1] (e_up J 206 na a) := by
  rw [E_V_eq]
  show e_tv E_C (E_V 239) e_t239_18 [192, S, nn, x3, x4] J = _
  unfold e_t239_18
  simp [zq_a, zq_b, zq_c, zq_d, zq_e, zq_f, zq_g, zq_h, zq_i, zq_j, zq_k, zq_l, zq_m, zq_n, zq_o, zq_p, zq_q, zq_r, zq_s, zq_t, zq_u, zq_v, zq_w, zq_x, zq_y, zq_z, zq_A, zq_B, zq_C, zq_D, zq_E, zq_F, zq_G, zq_H, zq_I, zq_J, zq_K, zq_L, ↓zq_M, ↓zq_N, ↓zq_O, ↓zq_P, ↓zq_Q, ↓zq_R, zq_S, zq_T, zq_U, zq_V, zq_W, zq_X, zq_Y, zq_Z, zq_0, zq_1, zq_2, zq_3, zq_4, zq_5, ↓zq_6, ↓zq_7, ↓zq_8, ↓zq_9, ↓zq_aa, zq_ab, zq_ac, zq_ad, zq_ae, zq_af, zq_ag, ↓zq_ah, ↓zq_ai, ↓zq_aj, zq_ak, ↓zq_al, ↓zq_am, e_b1, e_b2, x_o1, x_o2, r_O26, r_O36, q1, w4, g1, bt, w5, st]
theorem pr_18 {b c : Nat} {bI x3 : Int} (hn8 : n ≤ 8) (hb : bI = b) (hb8 : b < 256) (hc : x3 = c) (hc9 : c < 100) (hv : pt_v v n) : ∀ (t j : Nat) (x4 : Int) (J : EM), x4 = j → j + t = n → pr_T v n J → J 206 c = pt_s v b j c → ∃ J' y4, E_V 239 18 [192, bI, (n : Int), x3, x4] J = E_V 239 2 [192, bI, (n : Int), x3 + 1, y4] J' ∧ J' 206 c = pt_s v b n c ∧ ∀ id k, ¬ (id = 206 ∧ k = c) → J' id k = J id k := by
  have w0 : e_w (x3 + 1) = x3 + 1 := a_w_id (by omega) (by omega)
  intro t
  induction t with
  | zero =>
    intro j x4 J h4 hj hT hs
    have e : j = n := by omega
    refine ⟨J, x4, ?_, by rw [← e]; exact hs, fun _ _ _ => rfl⟩
    have q : ¬ (x4 < (n : Int)) := by omega
    clear hT hs hv
    generalize (n : Int) = nn at *
    rw [E_V_eq]
    show e_tv E_C (E_V 239) e_t239_18 [192, bI, nn, x3, x4] J = _
    unfold e_t239_18
    simp [zq_a, zq_b, zq_c, zq_d, zq_e, zq_f, zq_g, zq_h, zq_i, zq_j, zq_k, zq_l, zq_m, zq_n, zq_o, zq_p, zq_q, zq_r, zq_s, zq_t, zq_u, zq_v, zq_w, zq_x, zq_y, zq_z, zq_A, zq_B, zq_C, zq_D, zq_E, zq_F, zq_G, zq_H, zq_I, zq_J, zq_K, zq_L, ↓zq_M, ↓zq_N, ↓zq_O, ↓zq_P, ↓zq_Q, ↓zq_R, zq_S, zq_T, zq_U, zq_V, zq_W, zq_X, zq_Y, zq_Z, zq_0, zq_1, zq_2, zq_3, zq_4, zq_5, ↓zq_6, ↓zq_7, ↓zq_8, ↓zq_9, ↓zq_aa, zq_ab, zq_ac, zq_ad, zq_ae, zq_af, zq_ag, ↓zq_ah, ↓zq_ai, ↓zq_aj, zq_ak, ↓zq_al, ↓zq_am, e_b1, e_b2, x_o1, x_o2, q, w0]
  | succ t ih =>
    intro j x4 J h4 hj hT hs
    have q : x4 < (n : Int) := by omega
    have sb := pt_s_bd (v := v) (b := b) (c := c) j (fun i hi => hv.1 i c (by omega) hc9)
    have vb := hv.1 j c (by omega) hc9
    have bt := pt_bit b hb8 j (by omega)
    rw [← hb, ← h4] at bt
    have w1 : e_w (100 * x4) = 100 * x4 := a_w_id (by omega) (by omega)
    have w2 : e_w (100 * x4 + x3) = 100 * x4 + x3 := a_w_id (by omega) (by omega)
    have w4 : e_w (x4 + 1) = x4 + 1 := a_w_id (by omega) (by omega)
    have g1 : e_op 60 [206, x3] J = some (pt_s v b j c) := (r_rd6 (by omega) (by omega)).trans (congrArg some (by rw [show x3.toNat = c by omega, hs]))
    have g2 : e_op 60 [209, 100 * x4 + x3] J = some (v j c) := (r_rdA (a := 209) (n := 799) (by decide) (by decide) (by decide +kernel) (by omega) (by omega)).trans (by rw [show (100 * x4 + x3).toNat = 100 * j + c by omega]; exact congrArg some (hT j c (by omega) hc9))
    have st : ∀ z, e_st 100 [206, x3, z] J = some (e_up J 206 c z) := fun z => by
      have := r_st6 (v := z) (M := J) (show 0 ≤ x3 by omega) (show x3 < 100 by omega)
      rw [show x3.toNat = c by omega] at this
      exact this
    by_cases c1 : b / 2 ^ j % 2 = 1
    · rw [if_pos c1] at bt
      have w5 : e_w (pt_s v b j c + v j c) = pt_s v b j c + v j c := a_w_id (by omega) (by omega)
      obtain ⟨J', y4, k, k1, k2⟩ := ih (j + 1) (x4 + 1) (e_up J 206 c (pt_s v b j c + v j c)) (by omega) (by omega) (fun j' c' hj' hc' => (c_up_n (by omega)).trans (hT j' c' hj' hc')) (by rw [c_up_s, pt_s_1 c1])
      exact ⟨J', y4, (pr_18s q w1 w2 w4 g1 g2 bt w5 (st _)).trans k, k1, fun id k h => (k2 id k h).trans (c_up_n h)⟩
    · rw [if_neg c1] at bt
      have w5 : e_w (pt_s v b j c) = pt_s v b j c := a_w_id (by omega) (by omega)
      obtain ⟨J', y4, k, k1, k2⟩ := ih (j + 1) (x4 + 1) (e_up J 206 c (pt_s v b j c)) (by omega) (by omega) (fun j' c' hj' hc' => (c_up_n (by omega)).trans (hT j' c' hj' hc')) (by rw [c_up_s, pt_s_0 c1])
      exact ⟨J', y4, (pr_18z q w4 g1 bt w5 (st _)).trans k, k1, fun id k h => (k2 id k h).trans (c_up_n h)⟩
theorem pr_239 {b : Nat} {bI : Int} (hn8 : n ≤ 8) (hb : bI = b) (hb8 : b < 256) (hv : pt_v v n) (hT : pr_T v n K) (h5 : ∀ u, u < 1000 → 0 ≤ K 205 u ∧ K 205 u ≤ 100000) : ∃ K', E_C 239 [192, bI, (n : Int)] K = some (0, K') ∧ (∀ u : Nat, u < 1000 → K' 205 u = K 205 u + (cu_cu (fun c => pt_s v b n c) (u : Int) 99 : Int)) ∧ ∀ id k, id ≠ 205 → id ≠ 206 → K' id k = K id k := by
  have lp : ∀ (t c : Nat) (x3 x4 : Int) (J : EM), x3 = c → c + t = 100 → (∀ id k, id ≠ 206 → J id k = K id k) → (∀ c', c' < c → J 206 c' = pt_s v b n c') → ∃ K', E_V 239 2 [192, bI, (n : Int), x3, x4] J = some (0, K') ∧ (∀ u : Nat, u < 1000 → K' 205 u = K 205 u + (cu_cu (fun c => pt_s v b n c) (u : Int) 99 : Int)) ∧ ∀ id k, id ≠ 205 → id ≠ 206 → K' id k = K id k := by
    intro t
    induction t with
    | zero =>
      intro c x3 x4 J h3 hc hf h6
      have e : c = 100 := by omega
      subst e
      obtain ⟨K', k, k1, k2, k3⟩ := rx_givesBy (f := fun c => pt_s v b n c) (M := J) (fun c hc => h6 c hc) (fun u hu => by rw [hf _ _ (by decide)]; exact h5 u hu)
      refine ⟨K', ?_, fun u hu => by rw [k3 u (Nat.zero_le _) hu, hf _ _ (by decide)], fun id k i1 i2 => (k1 id k i1).trans (hf id k i2)⟩
      have q : ¬ (x3 < 100) := by omega
      clear hf h6 k1 k2 k3 hv hT h5
      generalize (n : Int) = nn at *
      rw [E_V_eq]
      show e_tv E_C (E_V 239) e_t239_2 [192, bI, nn, x3, x4] J = _
      unfold e_t239_2
      simp [zq_a, zq_b, zq_c, zq_d, zq_e, zq_f, zq_g, zq_h, zq_i, zq_j, zq_k, zq_l, zq_m, zq_n, zq_o, zq_p, zq_q, zq_r, zq_s, zq_t, zq_u, zq_v, zq_w, zq_x, zq_y, zq_z, zq_A, zq_B, zq_C, zq_D, zq_E, zq_F, zq_G, zq_H, zq_I, zq_J, zq_K, zq_L, ↓zq_M, ↓zq_N, ↓zq_O, ↓zq_P, ↓zq_Q, ↓zq_R, zq_S, zq_T, zq_U, zq_V, zq_W, zq_X, zq_Y, zq_Z, zq_0, zq_1, zq_2, zq_3, zq_4, zq_5, ↓zq_6, ↓zq_7, ↓zq_8, ↓zq_9, ↓zq_aa, zq_ab, zq_ac, zq_ad, zq_ae, zq_af, zq_ag, ↓zq_ah, ↓zq_ai, ↓zq_aj, zq_ak, ↓zq_al, ↓zq_am, e_b1, e_b2, x_o1, x_o2, q, k]
    | succ t ih =>
      intro c x3 x4 J h3 hc hf h6
      have st : e_st 100 [206, x3, 0] J = some (e_up J 206 c 0) := by
        have := r_st6 (v := 0) (M := J) (show 0 ≤ x3 by omega) (show x3 < 100 by omega)
        rw [show x3.toNat = c by omega] at this
        exact this
      obtain ⟨J', y4, k18, a1, a2⟩ := pr_18 hn8 hb hb8 h3 (show c < 100 by omega) hv n 0 0 (e_up J 206 c 0) rfl (by omega) (fun j' c' hj' hc' => (c_up_n (by omega)).trans ((hf _ _ (by decide)).trans (hT j' c' hj' hc'))) (by rw [c_up_s]; rfl)
      obtain ⟨K', k, kk⟩ := ih (c + 1) (x3 + 1) y4 J' (by omega) (by omega) (fun id k i => (a2 _ _ (by omega)).trans ((c_up_n (by omega)).trans (hf id k i))) (fun c' hc' => by
        by_cases e : c' = c
        · rw [e, a1]
        · rw [a2 _ _ (by omega), c_up_n (by omega)]
          exact h6 c' (by omega))
      refine ⟨K', ?_, kk⟩
      rw [← k, ← k18]
      have q : x3 < 100 := by omega
      generalize e_up J 206 c 0 = J0 at *
      clear k k18 kk a1 a2 ih hf h6 hv hT h5
      generalize (n : Int) = nn at *
      rw [E_V_eq]
      show e_tv E_C (E_V 239) e_t239_2 [192, bI, nn, x3, x4] J = _
      unfold e_t239_2
      simp [zq_a, zq_b, zq_c, zq_d, zq_e, zq_f, zq_g, zq_h, zq_i, zq_j, zq_k, zq_l, zq_m, zq_n, zq_o, zq_p, zq_q, zq_r, zq_s, zq_t, zq_u, zq_v, zq_w, zq_x, zq_y, zq_z, zq_A, zq_B, zq_C, zq_D, zq_E, zq_F, zq_G, zq_H, zq_I, zq_J, zq_K, zq_L, ↓zq_M, ↓zq_N, ↓zq_O, ↓zq_P, ↓zq_Q, ↓zq_R, zq_S, zq_T, zq_U, zq_V, zq_W, zq_X, zq_Y, zq_Z, zq_0, zq_1, zq_2, zq_3, zq_4, zq_5, ↓zq_6, ↓zq_7, ↓zq_8, ↓zq_9, ↓zq_aa, zq_ab, zq_ac, zq_ad, zq_ae, zq_af, zq_ag, ↓zq_ah, ↓zq_ai, ↓zq_aj, zq_ak, ↓zq_al, ↓zq_am, e_b1, e_b2, x_o1, x_o2, r_O26, q, st]
  obtain ⟨K', k, kk⟩ := lp 100 0 0 0 K rfl rfl (fun _ _ _ => rfl) (fun c h => absurd h (Nat.not_lt_zero _))
  refine ⟨K', ?_, kk⟩
  clear lp kk hv hT h5
  generalize (n : Int) = nn at *
  rw [r_ent (show e_rok 239 [192, bI, nn] = true from decide_eq_true r_ref)]
  show e_tv E_C (E_V 239) e_t239_0 [192, bI, nn, 0, 0] K = _
  unfold e_t239_0
  simp [zq_a, zq_b, zq_c, zq_d, zq_e, zq_f, zq_g, zq_h, zq_i, zq_j, zq_k, zq_l, zq_m, zq_n, zq_o, zq_p, zq_q, zq_r, zq_s, zq_t, zq_u, zq_v, zq_w, zq_x, zq_y, zq_z, zq_A, zq_B, zq_C, zq_D, zq_E, zq_F, zq_G, zq_H, zq_I, zq_J, zq_K, zq_L, ↓zq_M, ↓zq_N, ↓zq_O, ↓zq_P, ↓zq_Q, ↓zq_R, zq_S, zq_T, zq_U, zq_V, zq_W, zq_X, zq_Y, zq_Z, zq_0, zq_1, zq_2, zq_3, zq_4, zq_5, ↓zq_6, ↓zq_7, ↓zq_8, ↓zq_9, ↓zq_aa, zq_ab, zq_ac, zq_ad, zq_ae, zq_af, zq_ag, ↓zq_ah, ↓zq_ai, ↓zq_aj, zq_ak, ↓zq_al, ↓zq_am, e_b1, e_b2, x_o1, x_o2, k]
/-- one set tried by the reference -/
theorem pr_116s {d w nn x5 x6 S x8 z z2 bI m1 sb pz : Int} {M1 M2 : EM} (q : ¬ x8 < 1000) (k1 : E_C 239 [192, S, nn] K = some (0, M1)) (sh : e_bit (fun x y => x <<< (y &&& 31)) 1 nn = z) (w1 : e_w (z - 1) = m1) (nt : e_bit (fun x y => x &&& y) m1 (e_bit (fun x y => x ^^^ y) S (-1)) = z2) (k2 : E_C 239 [192, z2, nn] M1 = some (0, M2)) (kb : E_C 208 [192] M2 = some (bI, M2)) (g1 : e_op 60 [205, bI] M2 = some sb) (wp : e_w (bI * sb) = pz) (w2 : e_w (S + 2) = S + 2) : E_V 240 116 [192, d, w, 0, nn, x5, x6, S, x8] K = E_V 240 104 [192, d, w, 0, nn, if x6 < pz then S else x5, if x6 < pz then pz else x6, S + 2, bI] M2 := by
  have j203 : ∀ y5 y6, E_V 240 203 [192, d, w, 0, nn, y5, y6, S, bI] M2 = E_V 240 104 [192, d, w, 0, nn, y5, y6, S + 2, bI] M2 := fun y5 y6 => by
    rw [E_V_eq]
    show e_tv E_C (E_V 240) e_t240_203 [192, d, w, 0, nn, y5, y6, S, bI] M2 = _
    unfold e_t240_203
    simp [zq_a, zq_b, zq_c, zq_d, zq_e, zq_f, zq_g, zq_h, zq_i, zq_j, zq_k, zq_l, zq_m, zq_n, zq_o, zq_p, zq_q, zq_r, zq_s, zq_t, zq_u, zq_v, zq_w, zq_x, zq_y, zq_z, zq_A, zq_B, zq_C, zq_D, zq_E, zq_F, zq_G, zq_H, zq_I, zq_J, zq_K, zq_L, ↓zq_M, ↓zq_N, ↓zq_O, ↓zq_P, ↓zq_Q, ↓zq_R, zq_S, zq_T, zq_U, zq_V, zq_W, zq_X, zq_Y, zq_Z, zq_0, zq_1, zq_2, zq_3, zq_4, zq_5, ↓zq_6, ↓zq_7, ↓zq_8, ↓zq_9, ↓zq_aa, zq_ab, zq_ac, zq_ad, zq_ae, zq_af, zq_ag, ↓zq_ah, ↓zq_ai, ↓zq_aj, zq_ak, ↓zq_al, ↓zq_am, e_b1, e_b2, x_o1, x_o2, w2]
  rcases x_lt x6 pz with ⟨c, c_n⟩ | ⟨c, c_n⟩
  · rw [if_pos c, if_pos c]
    rw [E_V_eq]
    show e_tv E_C (E_V 240) e_t240_116 [192, d, w, 0, nn, x5, x6, S, x8] K = _
    unfold e_t240_116
    simp [zq_a, zq_b, zq_c, zq_d, zq_e, zq_f, zq_g, zq_h, zq_i, zq_j, zq_k, zq_l, zq_m, zq_n, zq_o, zq_p, zq_q, zq_r, zq_s, zq_t, zq_u, zq_v, zq_w, zq_x, zq_y, zq_z, zq_A, zq_B, zq_C, zq_D, zq_E, zq_F, zq_G, zq_H, zq_I, zq_J, zq_K, zq_L, ↓zq_M, ↓zq_N, ↓zq_O, ↓zq_P, ↓zq_Q, ↓zq_R, zq_S, zq_T, zq_U, zq_V, zq_W, zq_X, zq_Y, zq_Z, zq_0, zq_1, zq_2, zq_3, zq_4, zq_5, ↓zq_6, ↓zq_7, ↓zq_8, ↓zq_9, ↓zq_aa, zq_ab, zq_ac, zq_ad, zq_ae, zq_af, zq_ag, ↓zq_ah, ↓zq_ai, ↓zq_aj, zq_ak, ↓zq_al, ↓zq_am, e_b1, e_b2, x_o1, x_o2, r_O25, q, k1, sh, w1, nt, k2, kb, g1, wp, c, c_n, j203]
  · rw [if_neg c, if_neg c]
    rw [E_V_eq]
    show e_tv E_C (E_V 240) e_t240_116 [192, d, w, 0, nn, x5, x6, S, x8] K = _
    unfold e_t240_116
    simp [zq_a, zq_b, zq_c, zq_d, zq_e, zq_f, zq_g, zq_h, zq_i, zq_j, zq_k, zq_l, zq_m, zq_n, zq_o, zq_p, zq_q, zq_r, zq_s, zq_t, zq_u, zq_v, zq_w, zq_x, zq_y, zq_z, zq_A, zq_B, zq_C, zq_D, zq_E, zq_F, zq_G, zq_H, zq_I, zq_J, zq_K, zq_L, ↓zq_M, ↓zq_N, ↓zq_O, ↓zq_P, ↓zq_Q, ↓zq_R, zq_S, zq_T, zq_U, zq_V, zq_W, zq_X, zq_Y, zq_Z, zq_0, zq_1, zq_2, zq_3, zq_4, zq_5, ↓zq_6, ↓zq_7, ↓zq_8, ↓zq_9, ↓zq_aa, zq_ab, zq_ac, zq_ad, zq_ae, zq_af, zq_ag, ↓zq_ah, ↓zq_ai, ↓zq_aj, zq_ak, ↓zq_al, ↓zq_am, e_b1, e_b2, x_o1, x_o2, r_O25, q, k1, sh, w1, nt, k2, kb, g1, wp, c, c_n, j203]
theorem pr_116 {b : Nat} {S d w x5 x6 : Int} (hn : 2 ≤ n ∧ n ≤ 8) (hS : S = b) (hb : b < 2 ^ n) (hv : pt_v v n) (hT : pr_T v n K) : ∃ K' y8, E_V 240 116 [192, d, w, 0, (n : Int), x5, x6, S, 0] K = E_V 240 104 [192, d, w, 0, (n : Int), if x6 < pt_P v n b then S else x5, if x6 < pt_P v n b then pt_P v n b else x6, S + 2, y8] K' ∧ ∀ id k, id ≠ 205 → id ≠ 206 → K' id k = K id k := by
  obtain ⟨n4, n256, -⟩ := pt_2n n (by omega) hn.1
  have lp : ∀ (t u : Nat) (x8 : Int) (J : EM), x8 = u → u + t = 1000 → (∀ id k, id ≠ 205 → J id k = K id k) → (∀ u', u' < u → J 205 u' = 0) → ∃ K' y8, E_V 240 116 [192, d, w, 0, (n : Int), x5, x6, S, x8] J = E_V 240 104 [192, d, w, 0, (n : Int), if x6 < pt_P v n b then S else x5, if x6 < pt_P v n b then pt_P v n b else x6, S + 2, y8] K' ∧ ∀ id k, id ≠ 205 → id ≠ 206 → K' id k = K id k := by
    intro t
    induction t with
    | zero =>
      intro u x8 J h8 hu hf hz
      have e : u = 1000 := by omega
      subst e
      have TJ : pr_T v n J := fun j c hj hc => (hf _ _ (by decide)).trans (hT j c hj hc)
      obtain ⟨M1, k1, a1, a2⟩ := pr_239 (b := b) hn.2 hS (by omega) hv TJ (fun u hu => by rw [hz u hu]; decide)
      have c1 : ∀ u : Int, cu_cu (fun c => pt_s v b n c) u 99 ≤ 99 := fun u => cu_cu_le 99
      obtain ⟨M2, k2, b1, b2⟩ := pr_239 (b := 2 ^ n - 1 - b) (bI := ((2 ^ n - 1 - b : Nat) : Int)) hn.2 rfl (by omega) hv (K := M1) (fun j c hj hc => (a2 _ _ (by decide) (by decide)).trans (TJ j c hj hc)) (fun u hu => by
        rw [a1 u hu, hz u hu]
        have := c1 (u : Int)
        omega)
      have kb := rx_208 (M := M2) (s := fun u => pt_u v n b (u : Int)) (fun u hu => by
        rw [b1 u (by omega), a1 u (by omega), hz u (by omega), Int.zero_add]
        rfl) (fun u _ => by have := pt_u_bd (v := v) (n := n) (b := b) (u := (u : Int)); omega)
      have kb' : E_C 208 [192] M2 = some ((pt_B v n b : Int), M2) := kb
      have lB : pt_B v n b ≤ 500 := cu_b_le _
      have g1 : e_op 60 [205, (pt_B v n b : Int)] M2 = some (pt_u v n b (pt_B v n b : Int)) := (r_rd5 (by omega) (by omega)).trans (congrArg some (by
        rw [Int.toNat_natCast, b1 _ (by omega), a1 _ (by omega), hz _ (by omega), Int.zero_add]
        rfl))
      have nt := pt_not n (by omega) b hb
      rw [← hS] at nt
      exact ⟨M2, _, pr_116s (by omega) k1 (pt_shl n (by omega)) (a_w_id (by omega) (by omega)) nt k2 kb' g1 pt_P_bd.1 (a_w_id (by omega) (by omega)), fun id k i1 i2 => (b2 id k i1 i2).trans ((a2 id k i1 i2).trans (hf id k i1))⟩
    | succ t ih =>
      intro u x8 J h8 hu hf hz
      have st : e_st 100 [205, x8, 0] J = some (e_up J 205 u 0) := by
        have := r_st5 (v := 0) (M := J) (show 0 ≤ x8 by omega) (show x8 < 1000 by omega)
        rw [show x8.toNat = u by omega] at this
        exact this
      obtain ⟨K', y8, k, kk⟩ := ih (u + 1) (x8 + 1) (e_up J 205 u 0) (by omega) (by omega) (fun id k i => by rw [c_up_n (by omega)]; exact hf id k i) (fun u' hu' => by
        by_cases e : u' = u
        · rw [e, c_up_s]
        · rw [c_up_n (by omega)]
          exact hz u' (by omega))
      refine ⟨K', y8, ?_, kk⟩
      rw [← k]
      have q : x8 < 1000 := by omega
      have w4 : e_w (x8 + 1) = x8 + 1 := a_w_id (by omega) (by omega)
      generalize e_up J 205 u 0 = J1 at *
      clear k kk ih hf hz hv hT
      generalize (n : Int) = nn at *
      rw [E_V_eq]
      show e_tv E_C (E_V 240) e_t240_116 [192, d, w, 0, nn, x5, x6, S, x8] J = _
      unfold e_t240_116
      simp [zq_a, zq_b, zq_c, zq_d, zq_e, zq_f, zq_g, zq_h, zq_i, zq_j, zq_k, zq_l, zq_m, zq_n, zq_o, zq_p, zq_q, zq_r, zq_s, zq_t, zq_u, zq_v, zq_w, zq_x, zq_y, zq_z, zq_A, zq_B, zq_C, zq_D, zq_E, zq_F, zq_G, zq_H, zq_I, zq_J, zq_K, zq_L, ↓zq_M, ↓zq_N, ↓zq_O, ↓zq_P, ↓zq_Q, ↓zq_R, zq_S, zq_T, zq_U, zq_V, zq_W, zq_X, zq_Y, zq_Z, zq_0, zq_1, zq_2, zq_3, zq_4, zq_5, ↓zq_6, ↓zq_7, ↓zq_8, ↓zq_9, ↓zq_aa, zq_ab, zq_ac, zq_ad, zq_ae, zq_af, zq_ag, ↓zq_ah, ↓zq_ai, ↓zq_aj, zq_ak, ↓zq_al, ↓zq_am, e_b1, e_b2, x_o1, x_o2, r_O25, q, w4, st]
  exact lp 1000 0 0 K rfl rfl (fun _ _ _ => rfl) (fun u h => absurd h (Nat.not_lt_zero _))
theorem pr_104 {d w : Int} (hn : 2 ≤ n ∧ n ≤ 8) (hv : pt_v v n) {J : Nat} (nJ : 2 * J + 2 = 2 ^ n) : ∀ (t j : Nat) (x5 x6 x7 x8 : Int) (K : EM), x7 = ((2 * (j + 1) : Nat) : Int) → j + t = J → x6 = (pt_b (pt_P v n) j).1 → x5 = ((pt_b (pt_P v n) j).2 : Int) → pr_T v n K → ∃ K', E_V 240 104 [192, d, w, 0, (n : Int), x5, x6, x7, x8] K = some (if w = 0 then (pt_b (pt_P v n) J).1 else ((pt_b (pt_P v n) J).2 : Int), K') := by
  have sh := pt_shl n (by omega)
  obtain ⟨n4, n256, -⟩ := pt_2n n (by omega) hn.1
  intro t
  induction t with
  | zero =>
    intro j x5 x6 x7 x8 K h7 hj h6 h5 hT
    have e : j = J := by omega
    rw [← e, ← h6, ← h5]
    refine ⟨K, ?_⟩
    have q : ¬ (x7 < ((2 ^ n : Nat) : Int)) := by omega
    clear hT hv h6 h5
    generalize ((2 ^ n : Nat) : Int) = z at *
    generalize (n : Int) = nn at *
    by_cases c : w = 0
    · rw [if_pos c]
      rw [E_V_eq]
      show e_tv E_C (E_V 240) e_t240_104 [192, d, w, 0, nn, x5, x6, x7, x8] K = _
      unfold e_t240_104
      simp [zq_a, zq_b, zq_c, zq_d, zq_e, zq_f, zq_g, zq_h, zq_i, zq_j, zq_k, zq_l, zq_m, zq_n, zq_o, zq_p, zq_q, zq_r, zq_s, zq_t, zq_u, zq_v, zq_w, zq_x, zq_y, zq_z, zq_A, zq_B, zq_C, zq_D, zq_E, zq_F, zq_G, zq_H, zq_I, zq_J, zq_K, zq_L, ↓zq_M, ↓zq_N, ↓zq_O, ↓zq_P, ↓zq_Q, ↓zq_R, zq_S, zq_T, zq_U, zq_V, zq_W, zq_X, zq_Y, zq_Z, zq_0, zq_1, zq_2, zq_3, zq_4, zq_5, ↓zq_6, ↓zq_7, ↓zq_8, ↓zq_9, ↓zq_aa, zq_ab, zq_ac, zq_ad, zq_ae, zq_af, zq_ag, ↓zq_ah, ↓zq_ai, ↓zq_aj, zq_ak, ↓zq_al, ↓zq_am, e_b1, e_b2, x_o1, x_o2, sh, q, c]
    · rw [if_neg c]
      rw [E_V_eq]
      show e_tv E_C (E_V 240) e_t240_104 [192, d, w, 0, nn, x5, x6, x7, x8] K = _
      unfold e_t240_104
      simp [zq_a, zq_b, zq_c, zq_d, zq_e, zq_f, zq_g, zq_h, zq_i, zq_j, zq_k, zq_l, zq_m, zq_n, zq_o, zq_p, zq_q, zq_r, zq_s, zq_t, zq_u, zq_v, zq_w, zq_x, zq_y, zq_z, zq_A, zq_B, zq_C, zq_D, zq_E, zq_F, zq_G, zq_H, zq_I, zq_J, zq_K, zq_L, ↓zq_M, ↓zq_N, ↓zq_O, ↓zq_P, ↓zq_Q, ↓zq_R, zq_S, zq_T, zq_U, zq_V, zq_W, zq_X, zq_Y, zq_Z, zq_0, zq_1, zq_2, zq_3, zq_4, zq_5, ↓zq_6, ↓zq_7, ↓zq_8, ↓zq_9, ↓zq_aa, zq_ab, zq_ac, zq_ad, zq_ae, zq_af, zq_ag, ↓zq_ah, ↓zq_ai, ↓zq_aj, zq_ak, ↓zq_al, ↓zq_am, e_b1, e_b2, x_o1, x_o2, sh, q, c]
  | succ t ih =>
    intro j x5 x6 x7 x8 K h7 hj h6 h5 hT
    obtain ⟨K1, y8, k116, f1⟩ := pr_116 (b := 2 * (j + 1)) (d := d) (w := w) (x5 := x5) (x6 := x6) hn h7 (by omega) hv hT
    have go : E_V 240 104 [192, d, w, 0, (n : Int), x5, x6, x7, x8] K = E_V 240 116 [192, d, w, 0, (n : Int), x5, x6, x7, 0] K := by
      have q : x7 < ((2 ^ n : Nat) : Int) := by omega
      clear k116 ih hT hv h6 h5
      generalize ((2 ^ n : Nat) : Int) = z at *
      generalize (n : Int) = nn at *
      rw [E_V_eq]
      show e_tv E_C (E_V 240) e_t240_104 [192, d, w, 0, nn, x5, x6, x7, x8] K = _
      unfold e_t240_104
      simp [zq_a, zq_b, zq_c, zq_d, zq_e, zq_f, zq_g, zq_h, zq_i, zq_j, zq_k, zq_l, zq_m, zq_n, zq_o, zq_p, zq_q, zq_r, zq_s, zq_t, zq_u, zq_v, zq_w, zq_x, zq_y, zq_z, zq_A, zq_B, zq_C, zq_D, zq_E, zq_F, zq_G, zq_H, zq_I, zq_J, zq_K, zq_L, ↓zq_M, ↓zq_N, ↓zq_O, ↓zq_P, ↓zq_Q, ↓zq_R, zq_S, zq_T, zq_U, zq_V, zq_W, zq_X, zq_Y, zq_Z, zq_0, zq_1, zq_2, zq_3, zq_4, zq_5, ↓zq_6, ↓zq_7, ↓zq_8, ↓zq_9, ↓zq_aa, zq_ab, zq_ac, zq_ad, zq_ae, zq_af, zq_ag, ↓zq_ah, ↓zq_ai, ↓zq_aj, zq_ak, ↓zq_al, ↓zq_am, e_b1, e_b2, x_o1, x_o2, sh, q]
    rw [go, k116]
    have T1 : pr_T v n K1 := fun j c hj hc => (f1 _ _ (by decide) (by decide)).trans (hT j c hj hc)
    rcases Classical.em ((pt_b (pt_P v n) j).1 < pt_P v n (2 * (j + 1))) with z | z
    · have eb := pt_b_1 z
      rw [if_pos (by omega), if_pos (by omega)]
      exact ih (j + 1) _ _ _ _ K1 (by omega) (by omega) (by rw [eb]) (by rw [eb]; exact h7) T1
    · have eb := pt_b_0 z
      rw [if_neg (by omega), if_neg (by omega)]
      exact ih (j + 1) _ _ _ _ K1 (by omega) (by omega) (by rw [eb]; exact h6) (by rw [eb]; exact h5) T1
/-- the table filled -/
theorem pr_45 {g : Int → Int} {d w : Int} {M0 : EM} (hd : d = mN) (m8 : mN < 8) (hG : r_G M0 = g) (hK : rx_K M0) (h20 : M0 192 20 = -1) (hW : r_W g) (hcs : hd_cs g) (hcv : hd_cvs g) (hg : pt_g g E n) (hE : ∀ k, k < n → M0 198 (120 * mN + k) = E k) {j : Nat} {x5 : Int} (h5 : x5 = j) (hj : j < n) : ∀ (t c : Nat) (x6 x7 x8 : Int) (J : EM), x6 = c → c + t = 100 → (∀ id k, id ≠ 209 → J id k = M0 id k) → (∀ i c', i < j → c' < 100 → J 209 (100 * i + c') = pt_V g E i c') → (∀ c', c' < c → J 209 (100 * j + c') = pt_V g E j c') → ∃ J' y6, E_V 240 45 [192, d, w, 0, (n : Int), x5, x6, x7, x8] J = E_V 240 35 [192, d, w, 0, (n : Int), x5 + 1, y6, x7, x8] J' ∧ (∀ id k, id ≠ 209 → J' id k = M0 id k) ∧ ∀ i c', i < j + 1 → c' < 100 → J' 209 (100 * i + c') = pt_V g E i c' := by
  have n8 := hg.1.2
  have w0 : e_w (x5 + 1) = x5 + 1 := a_w_id (by omega) (by omega)
  have w1 : e_w (120 * d) = 120 * d := a_w_id (by omega) (by omega)
  have w2 : e_w (120 * d + x5) = 120 * d + x5 := a_w_id (by omega) (by omega)
  have w3 : e_w (100 * x5) = 100 * x5 := a_w_id (by omega) (by omega)
  intro t
  induction t with
  | zero =>
    intro c x6 x7 x8 J h6 hc hf hr hs
    have e : c = 100 := by omega
    subst e
    refine ⟨J, x6, ?_, hf, fun i c' hi hc' => ?_⟩
    · have q : ¬ (x6 < 100) := by omega
      clear hf hr hs hE hg
      generalize (n : Int) = nn at *
      rw [E_V_eq]
      show e_tv E_C (E_V 240) e_t240_45 [192, d, w, 0, nn, x5, x6, x7, x8] J = _
      unfold e_t240_45
      simp [zq_a, zq_b, zq_c, zq_d, zq_e, zq_f, zq_g, zq_h, zq_i, zq_j, zq_k, zq_l, zq_m, zq_n, zq_o, zq_p, zq_q, zq_r, zq_s, zq_t, zq_u, zq_v, zq_w, zq_x, zq_y, zq_z, zq_A, zq_B, zq_C, zq_D, zq_E, zq_F, zq_G, zq_H, zq_I, zq_J, zq_K, zq_L, ↓zq_M, ↓zq_N, ↓zq_O, ↓zq_P, ↓zq_Q, ↓zq_R, zq_S, zq_T, zq_U, zq_V, zq_W, zq_X, zq_Y, zq_Z, zq_0, zq_1, zq_2, zq_3, zq_4, zq_5, ↓zq_6, ↓zq_7, ↓zq_8, ↓zq_9, ↓zq_aa, zq_ab, zq_ac, zq_ad, zq_ae, zq_af, zq_ag, ↓zq_ah, ↓zq_ai, ↓zq_aj, zq_ak, ↓zq_al, ↓zq_am, e_b1, e_b2, x_o1, x_o2, q, w0]
    · by_cases e : i = j
      · subst e
        exact hs c' hc'
      · exact hr i c' (by omega) hc'
  | succ t ih =>
    intro c x6 x7 x8 J h6 hc hf hr hs
    have JG : r_G J = g := (funext fun i => hf _ _ (by decide)).trans hG
    have JK : rx_K J := ⟨(hf _ _ (by decide)).trans hK.1, (hf _ _ (by decide)).trans hK.2.1, (hf _ _ (by decide)).trans hK.2.2⟩
    obtain ⟨⟨e0, e1⟩, e2⟩ := (hg.2 j hj).1
    have cl : r_cl g (g 1198) (E j) := by
      rcases hW.2.2.1 (E j) e0 e1 with y | y | y | y
      · exact y
      · have := y.2.2.1; omega
      · have := y.2.2.1; omega
      · have := y.2.2.1; omega
    have lw := rx_low (M := J) (b := g 1198) (p := E j) (c := x6) (rx_md0 JK ((hf _ _ (by decide)).trans h20) (by rw [JG]; exact hcs)) (by rw [JG]; exact hcv) hW.2.1 (by rw [JG]; exact Int.le_refl _) (by rw [JG]; exact Or.inl cl) ⟨by omega, by omega⟩
    rw [JG] at lw
    have ev : cu_low g (hd_SH g) (hd_WM g) (hd_DI g) (E j) x6 = pt_V g E j c := by
      unfold cu_low pt_V
      rw [if_pos e2, h6]
    rw [ev] at lw
    have le : e_op 60 [198, 120 * d + x5] J = some (E j) := (r_rdE (by omega) (by omega)).trans (congrArg some (by rw [show (120 * d + x5).toNat = 120 * mN + j by omega, hf _ _ (by decide), hE j hj]))
    have st : e_st 100 [209, 100 * x5 + x6, pt_V g E j c] J = some (e_up J 209 (100 * j + c) (pt_V g E j c)) := (r_stA (a := 209) (n := 799) (by decide) (by decide) (by decide +kernel) (by omega) (by omega)).trans (by rw [show (100 * x5 + x6).toNat = 100 * j + c by omega]; rfl)
    obtain ⟨J', y6, k, k1, k2⟩ := ih (c + 1) (x6 + 1) x7 x8 (e_up J 209 (100 * j + c) (pt_V g E j c)) (by omega) (by omega) (fun id k i => by rw [c_up_n (by omega)]; exact hf id k i) (fun i c' hi hc' => by rw [c_up_n (by omega)]; exact hr i c' hi hc') (fun c' hc' => by
      by_cases e : c' = c
      · rw [e, c_up_s]
      · rw [c_up_n (by omega)]
        exact hs c' (by omega))
    refine ⟨J', y6, ?_, k1, k2⟩
    rw [← k]
    have w4 : e_w (100 * x5 + x6) = 100 * x5 + x6 := a_w_id (by omega) (by omega)
    have w5 : e_w (x6 + 1) = x6 + 1 := a_w_id (by omega) (by omega)
    have q : x6 < 100 := by omega
    generalize e_up J 209 (100 * j + c) (pt_V g E j c) = J1 at *
    clear k k1 k2 ih hf hr hs hE hg cl ev
    generalize (n : Int) = nn at *
    generalize pt_V g E j c = pv at *
    generalize E j = ej at *
    rw [E_V_eq]
    show e_tv E_C (E_V 240) e_t240_45 [192, d, w, 0, nn, x5, x6, x7, x8] J = _
    unfold e_t240_45
    simp [zq_a, zq_b, zq_c, zq_d, zq_e, zq_f, zq_g, zq_h, zq_i, zq_j, zq_k, zq_l, zq_m, zq_n, zq_o, zq_p, zq_q, zq_r, zq_s, zq_t, zq_u, zq_v, zq_w, zq_x, zq_y, zq_z, zq_A, zq_B, zq_C, zq_D, zq_E, zq_F, zq_G, zq_H, zq_I, zq_J, zq_K, zq_L, ↓zq_M, ↓zq_N, ↓zq_O, ↓zq_P, ↓zq_Q, ↓zq_R, zq_S, zq_T, zq_U, zq_V, zq_W, zq_X, zq_Y, zq_Z, zq_0, zq_1, zq_2, zq_3, zq_4, zq_5, ↓zq_6, ↓zq_7, ↓zq_8, ↓zq_9, ↓zq_aa, zq_ab, zq_ac, zq_ad, zq_ae, zq_af, zq_ag, ↓zq_ah, ↓zq_ai, ↓zq_aj, zq_ak, ↓zq_al, ↓zq_am, e_b1, e_b2, x_o1, x_o2, r_O5, r_O36, q, w1, w2, w3, w4, w5, le, lw, st]
theorem pr_35 {g : Int → Int} {d w : Int} {M0 : EM} (hd : d = mN) (m8 : mN < 8) (hG : r_G M0 = g) (hK : rx_K M0) (h20 : M0 192 20 = -1) (hW : r_W g) (hcs : hd_cs g) (hcv : hd_cvs g) (hg : pt_g g E n) (hE : ∀ k, k < n → M0 198 (120 * mN + k) = E k) (hv : pt_v (pt_V g E) n) : ∀ (t j : Nat) (x5 x6 x7 x8 : Int) (J : EM), x5 = j → j + t = n → (∀ id k, id ≠ 209 → J id k = M0 id k) → (∀ i c', i < j → c' < 100 → J 209 (100 * i + c') = pt_V g E i c') → ∃ M', E_V 240 35 [192, d, w, 0, (n : Int), x5, x6, x7, x8] J = some (if w = 0 then (pt_b (pt_P (pt_V g E) n) ((2 ^ n - 1) / 2)).1 else ((pt_b (pt_P (pt_V g E) n) ((2 ^ n - 1) / 2)).2 : Int), M') := by
  intro t
  induction t with
  | zero =>
    intro j x5 x6 x7 x8 J h5 hj hf hr
    have e : j = n := by omega
    subst e
    obtain ⟨n2, n8⟩ := hg.1
    obtain ⟨K', k⟩ := pr_104 (d := d) (w := w) ⟨n2, n8⟩ hv (pt_2n j (by omega) n2).2.2 ((2 ^ j - 1) / 2) 0 0 (-1) 2 x8 J rfl (by omega) rfl rfl (fun i c hi hc => hr i c hi hc)
    refine ⟨K', ?_⟩
    rw [← k]
    have q : ¬ (x5 < (j : Int)) := by omega
    clear hf hr hE hg hv k
    generalize (j : Int) = nn at *
    rw [E_V_eq]
    show e_tv E_C (E_V 240) e_t240_35 [192, d, w, 0, nn, x5, x6, x7, x8] J = _
    unfold e_t240_35
    simp [zq_a, zq_b, zq_c, zq_d, zq_e, zq_f, zq_g, zq_h, zq_i, zq_j, zq_k, zq_l, zq_m, zq_n, zq_o, zq_p, zq_q, zq_r, zq_s, zq_t, zq_u, zq_v, zq_w, zq_x, zq_y, zq_z, zq_A, zq_B, zq_C, zq_D, zq_E, zq_F, zq_G, zq_H, zq_I, zq_J, zq_K, zq_L, ↓zq_M, ↓zq_N, ↓zq_O, ↓zq_P, ↓zq_Q, ↓zq_R, zq_S, zq_T, zq_U, zq_V, zq_W, zq_X, zq_Y, zq_Z, zq_0, zq_1, zq_2, zq_3, zq_4, zq_5, ↓zq_6, ↓zq_7, ↓zq_8, ↓zq_9, ↓zq_aa, zq_ab, zq_ac, zq_ad, zq_ae, zq_af, zq_ag, ↓zq_ah, ↓zq_ai, ↓zq_aj, zq_ak, ↓zq_al, ↓zq_am, e_b1, e_b2, x_o1, x_o2, q]
  | succ t ih =>
    intro j x5 x6 x7 x8 J h5 hj hf hr
    obtain ⟨J', y6, k45, a1, a2⟩ := pr_45 (w := w) hd m8 hG hK h20 hW hcs hcv hg hE h5 (show j < n by omega) 100 0 0 x7 x8 J rfl rfl hf hr (fun c' h => absurd h (Nat.not_lt_zero _))
    obtain ⟨M', k⟩ := ih (j + 1) (x5 + 1) y6 x7 x8 J' (by omega) (by omega) a1 a2
    refine ⟨M', ?_⟩
    rw [← k, ← k45]
    have q : x5 < (n : Int) := by omega
    clear hf hr hE hg hv k k45 a1 a2 ih
    generalize (n : Int) = nn at *
    rw [E_V_eq]
    show e_tv E_C (E_V 240) e_t240_35 [192, d, w, 0, nn, x5, x6, x7, x8] J = _
    unfold e_t240_35
    simp [zq_a, zq_b, zq_c, zq_d, zq_e, zq_f, zq_g, zq_h, zq_i, zq_j, zq_k, zq_l, zq_m, zq_n, zq_o, zq_p, zq_q, zq_r, zq_s, zq_t, zq_u, zq_v, zq_w, zq_x, zq_y, zq_z, zq_A, zq_B, zq_C, zq_D, zq_E, zq_F, zq_G, zq_H, zq_I, zq_J, zq_K, zq_L, ↓zq_M, ↓zq_N, ↓zq_O, ↓zq_P, ↓zq_Q, ↓zq_R, zq_S, zq_T, zq_U, zq_V, zq_W, zq_X, zq_Y, zq_Z, zq_0, zq_1, zq_2, zq_3, zq_4, zq_5, ↓zq_6, ↓zq_7, ↓zq_8, ↓zq_9, ↓zq_aa, zq_ab, zq_ac, zq_ad, zq_ae, zq_af, zq_ag, ↓zq_ah, ↓zq_ai, ↓zq_aj, zq_ak, ↓zq_al, ↓zq_am, e_b1, e_b2, x_o1, x_o2, q]
end PR
section AXP
variable {M M1 M2 : EM} {d w r1 r2 : Int}
theorem pt_row0 (hS : h_S M) {w : Int} (h : h_no M d w = 0) : ∃ m : Nat, d = m ∧ m < 8 ∧ M (146 + 2 * m) 5 = M 197 m ∧ ∀ i, i < 120 → M (147 + 2 * m) i = M 198 (120 * m + i) := by
  obtain ⟨hd, k2⟩ := h_no2 h
  obtain ⟨m, hm⟩ : ∃ m : Nat, d = m := ⟨d.toNat, by omega⟩
  refine ⟨m, hm, by omega, ?_⟩
  rw [hm, Int.toNat_natCast] at k2
  rcases hS m (by omega) with ⟨b1, -⟩ | ⟨b1, -⟩ | ⟨-, -, -, -, b5, b6⟩
  · omega
  · omega
  · exact ⟨b5, b6⟩
theorem ax_parting (h : hd_all M) (hS : h_S M) (hJ : r_J M) (J1 : r_J M1) (K1 : rx_K M1) (hfr : ∀ id i, 192 ≤ id → M1 id i = M id i) (k1 : E_C 127 [8, d, w] M = some (r1, M1)) (k2 : E_C 240 [192, d, w] M1 = some (r2, M2)) : r1 = r2 := by
  have s1 : E_C 127 [8, d, w] M = e_tv E_C (E_V 127) e_t127_0 [8, d, w, 0, 0, 0] M := r_ent (u := 127) (as := [8, d, w]) (M := M) (decide_eq_true c_this)
  have s2 : E_C 240 [192, d, w] M1 = e_tv E_C (E_V 240) e_t240_0 [192, d, w, 0, 0, 0, 0, 0, 0] M1 := r_ent (u := 240) (as := [192, d, w]) (M := M1) (decide_eq_true r_ref)
  have fin : ∀ (z : Int) (A B : EM), E_C 127 [8, d, w] M = some (z, A) → E_C 240 [192, d, w] M1 = some (z, B) → r1 = r2 := fun z A B a1 a2 => by
    rw [(Prod.mk.inj (Option.some.inj (k1.symm.trans a1))).1, (Prod.mk.inj (Option.some.inj (k2.symm.trans a2))).1]
  have eG : r_G M1 = r_G M := funext fun i => hfr _ _ (by decide)
  by_cases hw : 0 ≤ w ∧ w ≤ 1
  · have iw := r_in1 (M := M1) hw
    obtain ⟨w0, w1⟩ := hw
    have w0n : ¬ w < 0 := by omega
    have w1n : ¬ 1 < w := by omega
    have h1 : h_no M1 d 0 = h_no M d 0 := by
      unfold h_no
      rw [hfr _ _ (by decide), hfr _ _ (by decide)]
    by_cases z : h_no M d 0 = 0
    · obtain ⟨m, hm, m8, e5, e8⟩ := pt_row0 hS z
      have sz := hJ.2.1 m m8
      obtain ⟨n, hn⟩ : ∃ n : Nat, M 197 m = n := ⟨(M 197 m).toNat, by omega⟩
      rw [hn] at sz e5
      have hh := (h_gr145 m8).2
      obtain ⟨c0, c1⟩ := h_ref (M := M) (d := d) (w := 0) hS (by omega)
      rw [z] at c1
      rw [show d.toNat = m by omega] at c0 c1
      have hne : ¬ ((146 + 2 * m : Nat) : Int) = -1 := by omega
      have s5 : M ((146 + 2 * m : Nat) : Int).toNat 5 = n := by rw [Int.toNat_natCast]; exact e5
      have sE : ∀ k, k < n → M (((146 + 2 * m : Nat) : Int) + 1).toNat k = M 198 (120 * m + k) := fun k hk => by
        rw [show (((146 + 2 * m : Nat) : Int) + 1).toNat = 147 + 2 * m by omega]
        exact e8 k (by omega)
      obtain ⟨t, kt, ht⟩ := pt_163 (E := fun k => M 198 (120 * m + k)) h.1 hh (by omega) s5 sE
      obtain ⟨t', kt', ht0, ht'⟩ := pr_238 (E := fun k => M 198 (120 * m + k)) (M := M1) eG J1 (by rw [h1]; exact z) hm m8 ((hfr _ _ (by decide)).trans hn) (by omega) (fun k hk => hfr _ _ (by decide))
      by_cases hg : pt_g (r_G M) (fun k => M 198 (120 * m + k)) n
      · have t0 := ht.mpr hg
        have t0' := ht'.mpr hg
        rw [t0'] at kt'
        obtain ⟨N, A, k2', k27, a1⟩ := pt_cl h hh s5 sE hg
        have ls := (r_isD d M1 ⟨by omega, by omega⟩).2.2.1
        rw [show d.toNat = m by omega, hfr _ _ (by decide), hn] at ls
        obtain ⟨B, k35⟩ := pr_35 (w := w) hm m8 eG K1 J1.2.2.2.2 (by rw [← eG]; exact (r_J_E J1).2.1) (hd_cs_of h.2.1) (hd_cvs_of h.2.2.1) hg (fun k hk => hfr _ _ (by decide)) (pt_Vv h.2.1 h.2.2.1 hg) n 0 0 0 0 0 M1 rfl (by omega) (fun _ _ _ => rfl) (fun i c' hi => absurd hi (Nat.not_lt_zero _))
        generalize (pt_b (pt_P (pt_V (r_G M) (fun k => M 198 (120 * m + k))) n) ((2 ^ n - 1) / 2)).1 = y1 at *
        generalize ((pt_b (pt_P (pt_V (r_G M) (fun k => M 198 (120 * m + k))) n) ((2 ^ n - 1) / 2)).2 : Int) = y2 at *
        clear hg ht ht' sE e8 hS h hJ J1 K1
        generalize ((146 + 2 * m : Nat) : Int) = x at *
        generalize (n : Int) = nn at *
        refine fin (if w = 0 then y1 else y2) A B ?_ ?_
        · rw [s1]
          unfold e_t127_0
          by_cases cw : w = 0
          · rw [if_pos cw]
            simp [zq_a, zq_b, zq_c, zq_d, zq_e, zq_f, zq_g, zq_h, zq_i, zq_j, zq_k, zq_l, zq_m, zq_n, zq_o, zq_p, zq_q, zq_r, zq_s, zq_t, zq_u, zq_v, zq_w, zq_x, zq_y, zq_z, zq_A, zq_B, zq_C, zq_D, zq_E, zq_F, zq_G, zq_H, zq_I, zq_J, zq_K, zq_L, ↓zq_M, ↓zq_N, ↓zq_O, ↓zq_P, ↓zq_Q, ↓zq_R, zq_S, zq_T, zq_U, zq_V, zq_W, zq_X, zq_Y, zq_Z, zq_0, zq_1, zq_2, zq_3, zq_4, zq_5, ↓zq_6, ↓zq_7, ↓zq_8, ↓zq_9, ↓zq_aa, zq_ab, zq_ac, zq_ad, zq_ae, zq_af, zq_ag, ↓zq_ah, ↓zq_ai, ↓zq_aj, zq_ak, ↓zq_al, ↓zq_am, e_b1, e_b2, x_o1, x_o2, ax_bench, bx_F1, c0, c1, hne, w0, w0n, w1, w1n, kt, t0, k2', k27, a1, cw]
          · rw [if_neg cw]
            simp [zq_a, zq_b, zq_c, zq_d, zq_e, zq_f, zq_g, zq_h, zq_i, zq_j, zq_k, zq_l, zq_m, zq_n, zq_o, zq_p, zq_q, zq_r, zq_s, zq_t, zq_u, zq_v, zq_w, zq_x, zq_y, zq_z, zq_A, zq_B, zq_C, zq_D, zq_E, zq_F, zq_G, zq_H, zq_I, zq_J, zq_K, zq_L, ↓zq_M, ↓zq_N, ↓zq_O, ↓zq_P, ↓zq_Q, ↓zq_R, zq_S, zq_T, zq_U, zq_V, zq_W, zq_X, zq_Y, zq_Z, zq_0, zq_1, zq_2, zq_3, zq_4, zq_5, ↓zq_6, ↓zq_7, ↓zq_8, ↓zq_9, ↓zq_aa, zq_ab, zq_ac, zq_ad, zq_ae, zq_af, zq_ag, ↓zq_ah, ↓zq_ai, ↓zq_aj, zq_ak, ↓zq_al, ↓zq_am, e_b1, e_b2, x_o1, x_o2, ax_bench, bx_F1, c0, c1, hne, w0, w0n, w1, w1n, kt, t0, k2', k27, a1, cw]
        · rw [s2]
          unfold e_t240_0
          simp [zq_a, zq_b, zq_c, zq_d, zq_e, zq_f, zq_g, zq_h, zq_i, zq_j, zq_k, zq_l, zq_m, zq_n, zq_o, zq_p, zq_q, zq_r, zq_s, zq_t, zq_u, zq_v, zq_w, zq_x, zq_y, zq_z, zq_A, zq_B, zq_C, zq_D, zq_E, zq_F, zq_G, zq_H, zq_I, zq_J, zq_K, zq_L, ↓zq_M, ↓zq_N, ↓zq_O, ↓zq_P, ↓zq_Q, ↓zq_R, zq_S, zq_T, zq_U, zq_V, zq_W, zq_X, zq_Y, zq_Z, zq_0, zq_1, zq_2, zq_3, zq_4, zq_5, ↓zq_6, ↓zq_7, ↓zq_8, ↓zq_9, ↓zq_aa, zq_ab, zq_ac, zq_ad, zq_ae, zq_af, zq_ag, ↓zq_ah, ↓zq_ai, ↓zq_aj, zq_ak, ↓zq_al, ↓zq_am, e_b1, e_b2, x_o1, x_o2, r_O4, iw, kt', ls, k35]
      · have t0 : t = 0 := by
          rcases Classical.em (t = 0) with y | y
          · exact y
          · exact absurd (ht.mp y) hg
        have t0' : t' = -13 := ht0.resolve_left (fun y => hg (ht'.mp y))
        rw [t0] at kt
        rw [t0'] at kt'
        clear hg ht ht' sE e8 hS h hJ J1 K1
        generalize ((146 + 2 * m : Nat) : Int) = x at *
        refine fin (-13) M M1 ?_ ?_
        · rw [s1]
          unfold e_t127_0
          simp [zq_a, zq_b, zq_c, zq_d, zq_e, zq_f, zq_g, zq_h, zq_i, zq_j, zq_k, zq_l, zq_m, zq_n, zq_o, zq_p, zq_q, zq_r, zq_s, zq_t, zq_u, zq_v, zq_w, zq_x, zq_y, zq_z, zq_A, zq_B, zq_C, zq_D, zq_E, zq_F, zq_G, zq_H, zq_I, zq_J, zq_K, zq_L, ↓zq_M, ↓zq_N, ↓zq_O, ↓zq_P, ↓zq_Q, ↓zq_R, zq_S, zq_T, zq_U, zq_V, zq_W, zq_X, zq_Y, zq_Z, zq_0, zq_1, zq_2, zq_3, zq_4, zq_5, ↓zq_6, ↓zq_7, ↓zq_8, ↓zq_9, ↓zq_aa, zq_ab, zq_ac, zq_ad, zq_ae, zq_af, zq_ag, ↓zq_ah, ↓zq_ai, ↓zq_aj, zq_ak, ↓zq_al, ↓zq_am, e_b1, e_b2, x_o1, x_o2, c0, c1, hne, w0, w0n, w1, w1n, kt]
        · rw [s2]
          unfold e_t240_0
          simp [zq_a, zq_b, zq_c, zq_d, zq_e, zq_f, zq_g, zq_h, zq_i, zq_j, zq_k, zq_l, zq_m, zq_n, zq_o, zq_p, zq_q, zq_r, zq_s, zq_t, zq_u, zq_v, zq_w, zq_x, zq_y, zq_z, zq_A, zq_B, zq_C, zq_D, zq_E, zq_F, zq_G, zq_H, zq_I, zq_J, zq_K, zq_L, ↓zq_M, ↓zq_N, ↓zq_O, ↓zq_P, ↓zq_Q, ↓zq_R, zq_S, zq_T, zq_U, zq_V, zq_W, zq_X, zq_Y, zq_Z, zq_0, zq_1, zq_2, zq_3, zq_4, zq_5, ↓zq_6, ↓zq_7, ↓zq_8, ↓zq_9, ↓zq_aa, zq_ab, zq_ac, zq_ad, zq_ae, zq_af, zq_ag, ↓zq_ah, ↓zq_ai, ↓zq_aj, zq_ak, ↓zq_al, ↓zq_am, e_b1, e_b2, x_o1, x_o2, iw, kt']
    · have kt' := pr_238n (M := M1) (d := d) (by rw [h1]; exact z)
      rw [h1] at kt'
      by_cases hd : 0 ≤ d ∧ d < 8
      · obtain ⟨c0, c1⟩ := h_ref (M := M) (d := d) (w := 0) hS hd
        generalize h_no M d 0 = y at *
        generalize ((146 + 2 * d.toNat : Nat) : Int) = x at *
        refine fin y M M1 ?_ ?_
        · rw [s1]
          unfold e_t127_0
          simp [zq_a, zq_b, zq_c, zq_d, zq_e, zq_f, zq_g, zq_h, zq_i, zq_j, zq_k, zq_l, zq_m, zq_n, zq_o, zq_p, zq_q, zq_r, zq_s, zq_t, zq_u, zq_v, zq_w, zq_x, zq_y, zq_z, zq_A, zq_B, zq_C, zq_D, zq_E, zq_F, zq_G, zq_H, zq_I, zq_J, zq_K, zq_L, ↓zq_M, ↓zq_N, ↓zq_O, ↓zq_P, ↓zq_Q, ↓zq_R, zq_S, zq_T, zq_U, zq_V, zq_W, zq_X, zq_Y, zq_Z, zq_0, zq_1, zq_2, zq_3, zq_4, zq_5, ↓zq_6, ↓zq_7, ↓zq_8, ↓zq_9, ↓zq_aa, zq_ab, zq_ac, zq_ad, zq_ae, zq_af, zq_ag, ↓zq_ah, ↓zq_ai, ↓zq_aj, zq_ak, ↓zq_al, ↓zq_am, e_b1, e_b2, x_o1, x_o2, c0, c1, w0, w0n, w1, w1n, z]
        · rw [s2]
          unfold e_t240_0
          simp [zq_a, zq_b, zq_c, zq_d, zq_e, zq_f, zq_g, zq_h, zq_i, zq_j, zq_k, zq_l, zq_m, zq_n, zq_o, zq_p, zq_q, zq_r, zq_s, zq_t, zq_u, zq_v, zq_w, zq_x, zq_y, zq_z, zq_A, zq_B, zq_C, zq_D, zq_E, zq_F, zq_G, zq_H, zq_I, zq_J, zq_K, zq_L, ↓zq_M, ↓zq_N, ↓zq_O, ↓zq_P, ↓zq_Q, ↓zq_R, zq_S, zq_T, zq_U, zq_V, zq_W, zq_X, zq_Y, zq_Z, zq_0, zq_1, zq_2, zq_3, zq_4, zq_5, ↓zq_6, ↓zq_7, ↓zq_8, ↓zq_9, ↓zq_aa, zq_ab, zq_ac, zq_ad, zq_ae, zq_af, zq_ag, ↓zq_ah, ↓zq_ai, ↓zq_aj, zq_ak, ↓zq_al, ↓zq_am, e_b1, e_b2, x_o1, x_o2, iw, kt', z]
      · obtain ⟨c0, c1, c2⟩ := h_ref1 (M := M) (w := 0) hd
        rw [c2] at kt'
        refine fin (-1) M M1 ?_ ?_
        · rw [s1]
          unfold e_t127_0
          simp [zq_a, zq_b, zq_c, zq_d, zq_e, zq_f, zq_g, zq_h, zq_i, zq_j, zq_k, zq_l, zq_m, zq_n, zq_o, zq_p, zq_q, zq_r, zq_s, zq_t, zq_u, zq_v, zq_w, zq_x, zq_y, zq_z, zq_A, zq_B, zq_C, zq_D, zq_E, zq_F, zq_G, zq_H, zq_I, zq_J, zq_K, zq_L, ↓zq_M, ↓zq_N, ↓zq_O, ↓zq_P, ↓zq_Q, ↓zq_R, zq_S, zq_T, zq_U, zq_V, zq_W, zq_X, zq_Y, zq_Z, zq_0, zq_1, zq_2, zq_3, zq_4, zq_5, ↓zq_6, ↓zq_7, ↓zq_8, ↓zq_9, ↓zq_aa, zq_ab, zq_ac, zq_ad, zq_ae, zq_af, zq_ag, ↓zq_ah, ↓zq_ai, ↓zq_aj, zq_ak, ↓zq_al, ↓zq_am, e_b1, e_b2, x_o1, x_o2, c0, c1, w0, w0n, w1, w1n]
        · rw [s2]
          unfold e_t240_0
          simp [zq_a, zq_b, zq_c, zq_d, zq_e, zq_f, zq_g, zq_h, zq_i, zq_j, zq_k, zq_l, zq_m, zq_n, zq_o, zq_p, zq_q, zq_r, zq_s, zq_t, zq_u, zq_v, zq_w, zq_x, zq_y, zq_z, zq_A, zq_B, zq_C, zq_D, zq_E, zq_F, zq_G, zq_H, zq_I, zq_J, zq_K, zq_L, ↓zq_M, ↓zq_N, ↓zq_O, ↓zq_P, ↓zq_Q, ↓zq_R, zq_S, zq_T, zq_U, zq_V, zq_W, zq_X, zq_Y, zq_Z, zq_0, zq_1, zq_2, zq_3, zq_4, zq_5, ↓zq_6, ↓zq_7, ↓zq_8, ↓zq_9, ↓zq_aa, zq_ab, zq_ac, zq_ad, zq_ae, zq_af, zq_ag, ↓zq_ah, ↓zq_ai, ↓zq_aj, zq_ak, ↓zq_al, ↓zq_am, e_b1, e_b2, x_o1, x_o2, iw, kt']
  · have iw := r_in0 (M := M1) hw
    have c0 : ∃ x, E_C 154 [8, d] M = some (x, M) := by
      by_cases hd : 0 ≤ d ∧ d < 8
      · obtain ⟨m, hm⟩ : ∃ m : Nat, d = m := ⟨d.toNat, by omega⟩
        rw [hm]
        exact ⟨_, h_154a (by omega) (by omega) (h_rd145 (by omega) M)⟩
      · exact ⟨_, h_154n hd⟩
    obtain ⟨x, c0⟩ := c0
    refine fin (-1) M M1 ?_ ?_
    · rw [s1]
      unfold e_t127_0
      rcases x_le 0 w with ⟨w0, w0_n⟩ | ⟨w0, w0_n⟩
      · have w1 : 1 < w := by
          rcases Classical.em (w ≤ 1) with y | y
          · exact absurd ⟨w0, y⟩ hw
          · omega
        have w1n : ¬ w ≤ 1 := by omega
        simp [zq_a, zq_b, zq_c, zq_d, zq_e, zq_f, zq_g, zq_h, zq_i, zq_j, zq_k, zq_l, zq_m, zq_n, zq_o, zq_p, zq_q, zq_r, zq_s, zq_t, zq_u, zq_v, zq_w, zq_x, zq_y, zq_z, zq_A, zq_B, zq_C, zq_D, zq_E, zq_F, zq_G, zq_H, zq_I, zq_J, zq_K, zq_L, ↓zq_M, ↓zq_N, ↓zq_O, ↓zq_P, ↓zq_Q, ↓zq_R, zq_S, zq_T, zq_U, zq_V, zq_W, zq_X, zq_Y, zq_Z, zq_0, zq_1, zq_2, zq_3, zq_4, zq_5, ↓zq_6, ↓zq_7, ↓zq_8, ↓zq_9, ↓zq_aa, zq_ab, zq_ac, zq_ad, zq_ae, zq_af, zq_ag, ↓zq_ah, ↓zq_ai, ↓zq_aj, zq_ak, ↓zq_al, ↓zq_am, e_b1, e_b2, x_o1, x_o2, c0, w0, w0_n, w1, w1n]
      · simp [zq_a, zq_b, zq_c, zq_d, zq_e, zq_f, zq_g, zq_h, zq_i, zq_j, zq_k, zq_l, zq_m, zq_n, zq_o, zq_p, zq_q, zq_r, zq_s, zq_t, zq_u, zq_v, zq_w, zq_x, zq_y, zq_z, zq_A, zq_B, zq_C, zq_D, zq_E, zq_F, zq_G, zq_H, zq_I, zq_J, zq_K, zq_L, ↓zq_M, ↓zq_N, ↓zq_O, ↓zq_P, ↓zq_Q, ↓zq_R, zq_S, zq_T, zq_U, zq_V, zq_W, zq_X, zq_Y, zq_Z, zq_0, zq_1, zq_2, zq_3, zq_4, zq_5, ↓zq_6, ↓zq_7, ↓zq_8, ↓zq_9, ↓zq_aa, zq_ab, zq_ac, zq_ad, zq_ae, zq_af, zq_ag, ↓zq_ah, ↓zq_ai, ↓zq_aj, zq_ak, ↓zq_al, ↓zq_am, e_b1, e_b2, x_o1, x_o2, c0, w0, w0_n]
    · rw [s2]
      unfold e_t240_0
      simp [zq_a, zq_b, zq_c, zq_d, zq_e, zq_f, zq_g, zq_h, zq_i, zq_j, zq_k, zq_l, zq_m, zq_n, zq_o, zq_p, zq_q, zq_r, zq_s, zq_t, zq_u, zq_v, zq_w, zq_x, zq_y, zq_z, zq_A, zq_B, zq_C, zq_D, zq_E, zq_F, zq_G, zq_H, zq_I, zq_J, zq_K, zq_L, ↓zq_M, ↓zq_N, ↓zq_O, ↓zq_P, ↓zq_Q, ↓zq_R, zq_S, zq_T, zq_U, zq_V, zq_W, zq_X, zq_Y, zq_Z, zq_0, zq_1, zq_2, zq_3, zq_4, zq_5, ↓zq_6, ↓zq_7, ↓zq_8, ↓zq_9, ↓zq_aa, zq_ab, zq_ac, zq_ad, zq_ae, zq_af, zq_ag, ↓zq_ah, ↓zq_ai, ↓zq_aj, zq_ak, ↓zq_al, ↓zq_am, e_b1, e_b2, x_o1, x_o2, iw]
end AXP
