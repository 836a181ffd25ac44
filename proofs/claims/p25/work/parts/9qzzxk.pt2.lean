/-! PARTING: what is told; the class's answer -/
/-- CELLS told as they must be -/
def pt_g (g : Int → Int) (E : Nat → Int) (n : Nat) : Prop := (2 ≤ n ∧ n ≤ 8) ∧ ∀ k, k < n → ((0 ≤ E k ∧ E k < g 1198) ∧ g (28 * E k) = 0) ∧ ∀ j, j < k → E j ≠ E k
section PTC
variable {M M1 : EM} {n : Nat} {s x : Int} {E : Nat → Int}
theorem pt_91 (hh : s ∈ a_SH) (hn : n ≤ 120) (h5 : M s.toNat 5 = n) (hE : ∀ k, k < n → M (s + 1).toNat k = E k) : ∃ z : Nat, E_C 91 [s, x] M = some ((z : Int), M) ∧ z ≤ n ∧ (∀ j, j < z → E j ≠ x) ∧ (z < n → E z = x) := by
  obtain ⟨g1, g2, g3, g4, g5, g6, g7⟩ := w_sh hh
  have f6 : e_gf 518 [s] M = some (s + 1) := (c_gr g1 (by decide +kernel)).trans (congrArg some g5)
  obtain ⟨-, -, -, f5⟩ := h_sf hh M
  rw [h5] at f5
  have lp : ∀ (t j : Nat) (x2 : Int), x2 = j → j + t = n → (∀ i, i < j → E i ≠ x) → ∃ z : Nat, E_V 91 2 [s, x, x2] M = some ((z : Int), M) ∧ z ≤ n ∧ (∀ j, j < z → E j ≠ x) ∧ (z < n → E z = x) := by
    intro t
    induction t with
    | zero =>
      intro j x2 h2 hj hne
      have e : j = n := by omega
      subst e
      refine ⟨j, ?_, Nat.le_refl _, hne, fun h => absurd h (Nat.lt_irrefl _)⟩
      have q : ¬ (x2 < (j : Int)) := by omega
      clear hne hE
      generalize (j : Int) = nn at *
      rw [E_V_eq]
      show e_tv E_C (E_V 91) e_t91_2 [s, x, x2] M = _
      unfold e_t91_2
      simp [zq_a, zq_b, zq_c, zq_d, zq_e, zq_f, zq_g, zq_h, zq_i, zq_j, zq_k, zq_l, zq_m, zq_n, zq_o, zq_p, zq_q, zq_r, zq_s, zq_t, zq_u, zq_v, zq_w, zq_x, zq_y, zq_z, zq_A, zq_B, zq_C, zq_D, zq_E, zq_F, zq_G, zq_H, zq_I, zq_J, zq_K, zq_L, ↓zq_M, ↓zq_N, ↓zq_O, ↓zq_P, ↓zq_Q, ↓zq_R, zq_S, zq_T, zq_U, zq_V, zq_W, zq_X, zq_Y, zq_Z, zq_0, zq_1, zq_2, zq_3, zq_4, zq_5, ↓zq_6, ↓zq_7, ↓zq_8, ↓zq_9, ↓zq_aa, zq_ab, zq_ac, zq_ad, zq_ae, zq_af, zq_ag, ↓zq_ah, ↓zq_ai, ↓zq_aj, zq_ak, ↓zq_al, ↓zq_am, e_b1, e_b2, x_o1, x_o2, f5, q]
    | succ t ih =>
      intro j x2 h2 hj hne
      have q : x2 < (n : Int) := by omega
      have tg : E_C 146 [s + 1, x2] M = some (E j, M) := (w_atN (a := s + 1) (n := 120) ⟨g2, g3, g4⟩ (j := j) h2 (by omega) M).trans (by rw [hE _ (by omega)])
      have w1 : e_w (x2 + 1) = x2 + 1 := a_w_id (by omega) (by omega)
      by_cases c : E j = x
      · refine ⟨j, ?_, by omega, hne, fun _ => c⟩
        rw [← h2]
        clear hne hE ih
        generalize (n : Int) = nn at *
        generalize E j = ej at *
        rw [E_V_eq]
        show e_tv E_C (E_V 91) e_t91_2 [s, x, x2] M = _
        unfold e_t91_2
        simp [zq_a, zq_b, zq_c, zq_d, zq_e, zq_f, zq_g, zq_h, zq_i, zq_j, zq_k, zq_l, zq_m, zq_n, zq_o, zq_p, zq_q, zq_r, zq_s, zq_t, zq_u, zq_v, zq_w, zq_x, zq_y, zq_z, zq_A, zq_B, zq_C, zq_D, zq_E, zq_F, zq_G, zq_H, zq_I, zq_J, zq_K, zq_L, ↓zq_M, ↓zq_N, ↓zq_O, ↓zq_P, ↓zq_Q, ↓zq_R, zq_S, zq_T, zq_U, zq_V, zq_W, zq_X, zq_Y, zq_Z, zq_0, zq_1, zq_2, zq_3, zq_4, zq_5, ↓zq_6, ↓zq_7, ↓zq_8, ↓zq_9, ↓zq_aa, zq_ab, zq_ac, zq_ad, zq_ae, zq_af, zq_ag, ↓zq_ah, ↓zq_ai, ↓zq_aj, zq_ak, ↓zq_al, ↓zq_am, e_b1, e_b2, x_o1, x_o2, f5, f6, q, tg, c]
      · obtain ⟨z, kz, zz⟩ := ih (j + 1) (x2 + 1) (by omega) (by omega) (fun i hi => by
          by_cases e : i = j
          · rw [e]; exact c
          · exact hne i (by omega))
        refine ⟨z, ?_, zz⟩
        rw [← kz]
        clear hne hE ih kz zz
        generalize (n : Int) = nn at *
        generalize E j = ej at *
        rw [E_V_eq]
        show e_tv E_C (E_V 91) e_t91_2 [s, x, x2] M = _
        unfold e_t91_2
        simp [zq_a, zq_b, zq_c, zq_d, zq_e, zq_f, zq_g, zq_h, zq_i, zq_j, zq_k, zq_l, zq_m, zq_n, zq_o, zq_p, zq_q, zq_r, zq_s, zq_t, zq_u, zq_v, zq_w, zq_x, zq_y, zq_z, zq_A, zq_B, zq_C, zq_D, zq_E, zq_F, zq_G, zq_H, zq_I, zq_J, zq_K, zq_L, ↓zq_M, ↓zq_N, ↓zq_O, ↓zq_P, ↓zq_Q, ↓zq_R, zq_S, zq_T, zq_U, zq_V, zq_W, zq_X, zq_Y, zq_Z, zq_0, zq_1, zq_2, zq_3, zq_4, zq_5, ↓zq_6, ↓zq_7, ↓zq_8, ↓zq_9, ↓zq_aa, zq_ab, zq_ac, zq_ad, zq_ae, zq_af, zq_ag, ↓zq_ah, ↓zq_ai, ↓zq_aj, zq_ak, ↓zq_al, ↓zq_am, e_b1, e_b2, x_o1, x_o2, f5, f6, q, tg, c, w1]
  obtain ⟨z, kz, zz⟩ := lp n 0 0 rfl (by omega) (fun j h => absurd h (Nat.not_lt_zero _))
  refine ⟨z, ?_, zz⟩
  have hr : e_rok 91 [s, x] = true := by
    unfold e_rok
    rw [show q_rc (e_vm 91) = some 8 from by decide +kernel]
    exact decide_eq_true g1
  rw [r_ent hr]
  show e_tv E_C (E_V 91) e_t91_0 [s, x, 0] M = _
  unfold e_t91_0
  simp [zq_a, zq_b, zq_c, zq_d, zq_e, zq_f, zq_g, zq_h, zq_i, zq_j, zq_k, zq_l, zq_m, zq_n, zq_o, zq_p, zq_q, zq_r, zq_s, zq_t, zq_u, zq_v, zq_w, zq_x, zq_y, zq_z, zq_A, zq_B, zq_C, zq_D, zq_E, zq_F, zq_G, zq_H, zq_I, zq_J, zq_K, zq_L, ↓zq_M, ↓zq_N, ↓zq_O, ↓zq_P, ↓zq_Q, ↓zq_R, zq_S, zq_T, zq_U, zq_V, zq_W, zq_X, zq_Y, zq_Z, zq_0, zq_1, zq_2, zq_3, zq_4, zq_5, ↓zq_6, ↓zq_7, ↓zq_8, ↓zq_9, ↓zq_aa, zq_ab, zq_ac, zq_ad, zq_ae, zq_af, zq_ag, ↓zq_ah, ↓zq_ai, ↓zq_aj, zq_ak, ↓zq_al, ↓zq_am, e_b1, e_b2, x_o1, x_o2, kz]
theorem pt_163 {g : Int → Int} (hB : h_B M 0 g) (hh : s ∈ a_SH) (hn : n ≤ 120) (h5 : M s.toNat 5 = n) (hE : ∀ k, k < n → M (s + 1).toNat k = E k) : ∃ z, E_C 163 [8, s] M = some (z, M) ∧ (z ≠ 0 ↔ pt_g g E n) := by
  obtain ⟨g1, g2, g3, g4, g5, g6, g7⟩ := w_sh hh
  have f6 : e_gf 518 [s] M = some (s + 1) := (c_gr g1 (by decide +kernel)).trans (congrArg some g5)
  obtain ⟨-, -, -, f5⟩ := h_sf hh M
  rw [h5] at f5
  have h10 : M 10 0 = g 1198 := hB.1
  have lp : ∀ (t k : Nat) (x2 x3 : Int), x2 = k → k + t = n → (∀ j, j < k → ((0 ≤ E j ∧ E j < g 1198) ∧ g (28 * E j) = 0) ∧ ∀ i, i < j → E i ≠ E j) → ∃ z, E_V 163 21 [8, s, x2, x3] M = some (z, M) ∧ (z ≠ 0 ↔ ∀ j, j < n → ((0 ≤ E j ∧ E j < g 1198) ∧ g (28 * E j) = 0) ∧ ∀ i, i < j → E i ≠ E j) := by
    intro t
    induction t with
    | zero =>
      intro k x2 x3 h2 hk hg
      have e : k = n := by omega
      subst e
      refine ⟨1, ?_, fun _ => hg, fun _ => by decide⟩
      have q : ¬ (x2 < (k : Int)) := by omega
      clear hg hE
      generalize (k : Int) = nn at *
      rw [E_V_eq]
      show e_tv E_C (E_V 163) e_t163_21 [8, s, x2, x3] M = _
      unfold e_t163_21
      simp [zq_a, zq_b, zq_c, zq_d, zq_e, zq_f, zq_g, zq_h, zq_i, zq_j, zq_k, zq_l, zq_m, zq_n, zq_o, zq_p, zq_q, zq_r, zq_s, zq_t, zq_u, zq_v, zq_w, zq_x, zq_y, zq_z, zq_A, zq_B, zq_C, zq_D, zq_E, zq_F, zq_G, zq_H, zq_I, zq_J, zq_K, zq_L, ↓zq_M, ↓zq_N, ↓zq_O, ↓zq_P, ↓zq_Q, ↓zq_R, zq_S, zq_T, zq_U, zq_V, zq_W, zq_X, zq_Y, zq_Z, zq_0, zq_1, zq_2, zq_3, zq_4, zq_5, ↓zq_6, ↓zq_7, ↓zq_8, ↓zq_9, ↓zq_aa, zq_ab, zq_ac, zq_ad, zq_ae, zq_af, zq_ag, ↓zq_ah, ↓zq_ai, ↓zq_aj, zq_ak, ↓zq_al, ↓zq_am, e_b1, e_b2, x_o1, x_o2, f5, q]
    | succ t ih =>
      intro k x2 x3 h2 hk hg
      have q : x2 < (n : Int) := by omega
      have tg : E_C 146 [s + 1, x2] M = some (E k, M) := (w_atN (a := s + 1) (n := 120) ⟨g2, g3, g4⟩ (j := k) h2 (by omega) M).trans (by rw [hE _ (by omega)])
      have w1 : e_w (x2 + 1) = x2 + 1 := a_w_id (by omega) (by omega)
      have ip := h_149 (k := E k) (M := M)
      rw [h10] at ip
      obtain ⟨z, kz, z1, z2, z3⟩ := pt_91 (x := E k) hh hn h5 hE
      have zk : z ≤ k := by
        rcases Nat.lt_or_ge k z with y | y
        · exact absurd rfl (z2 k y)
        · exact y
      have bad : ¬ (((0 ≤ E k ∧ E k < g 1198) ∧ g (28 * E k) = 0) ∧ ∀ i, i < k → E i ≠ E k) → ¬ ∀ j, j < n → ((0 ≤ E j ∧ E j < g 1198) ∧ g (28 * E j) = 0) ∧ ∀ i, i < j → E i ≠ E j := fun h h' => h (h' k (by omega))
      by_cases c1 : 0 ≤ E k ∧ E k < g 1198
      · rw [if_pos c1] at ip
        have k40 : E k < 40 := by have := hB.2.1.2; omega
        obtain ⟨e, he⟩ : ∃ e : Nat, E k = e := ⟨(E k).toNat, by omega⟩
        have mk : M 11 e = g (28 * (e : Int)) := (hB.2.2 e (by omega)).1
        have ik := h_150 (p := E k) (k := 0) (M := M) ⟨c1.1, k40⟩
        rw [show (E k).toNat = e by omega, mk, ← he] at ik
        by_cases c2 : g (28 * E k) = 0
        · rw [if_pos c2] at ik
          by_cases c3 : z < k ∧ z < k
          · refine ⟨0, ?_, fun h => absurd rfl h, fun h => absurd h (bad (fun h => h.2 z c3.1 (z3 (by omega))))⟩
            have q3 : (z : Int) < x2 := by omega
            have q3n : ¬ x2 ≤ (z : Int) := by omega
            clear bad ih hg hE z1 z2 z3 c1 c2 c3 mk
            generalize (z : Int) = zz at *
            generalize (n : Int) = nn at *
            generalize E k = ek at *
            rw [E_V_eq]
            show e_tv E_C (E_V 163) e_t163_21 [8, s, x2, x3] M = _
            unfold e_t163_21
            simp [zq_a, zq_b, zq_c, zq_d, zq_e, zq_f, zq_g, zq_h, zq_i, zq_j, zq_k, zq_l, zq_m, zq_n, zq_o, zq_p, zq_q, zq_r, zq_s, zq_t, zq_u, zq_v, zq_w, zq_x, zq_y, zq_z, zq_A, zq_B, zq_C, zq_D, zq_E, zq_F, zq_G, zq_H, zq_I, zq_J, zq_K, zq_L, ↓zq_M, ↓zq_N, ↓zq_O, ↓zq_P, ↓zq_Q, ↓zq_R, zq_S, zq_T, zq_U, zq_V, zq_W, zq_X, zq_Y, zq_Z, zq_0, zq_1, zq_2, zq_3, zq_4, zq_5, ↓zq_6, ↓zq_7, ↓zq_8, ↓zq_9, ↓zq_aa, zq_ab, zq_ac, zq_ad, zq_ae, zq_af, zq_ag, ↓zq_ah, ↓zq_ai, ↓zq_aj, zq_ak, ↓zq_al, ↓zq_am, e_b1, e_b2, x_o1, x_o2, f5, f6, q, tg, ip, ik, kz, q3, q3n]
          · have ez : z = k := by
              rcases Nat.lt_or_ge z k with y | y
              · exact absurd ⟨y, y⟩ c3
              · omega
            obtain ⟨w, kw, hw⟩ := ih (k + 1) (x2 + 1) (E k) (by omega) (by omega) (fun j hj => by
              by_cases ej : j = k
              · subst ej
                exact ⟨⟨c1, c2⟩, fun i hi => z2 i (by omega)⟩
              · exact hg j (by omega))
            refine ⟨w, ?_, hw⟩
            rw [← kw]
            have q3 : ¬ (z : Int) < x2 := by omega
            have q3n : x2 ≤ (z : Int) := by omega
            clear bad ih hg hE z1 z2 z3 c1 c2 c3 mk kw hw
            generalize (z : Int) = zz at *
            generalize (n : Int) = nn at *
            generalize E k = ek at *
            rw [E_V_eq]
            show e_tv E_C (E_V 163) e_t163_21 [8, s, x2, x3] M = _
            unfold e_t163_21
            simp [zq_a, zq_b, zq_c, zq_d, zq_e, zq_f, zq_g, zq_h, zq_i, zq_j, zq_k, zq_l, zq_m, zq_n, zq_o, zq_p, zq_q, zq_r, zq_s, zq_t, zq_u, zq_v, zq_w, zq_x, zq_y, zq_z, zq_A, zq_B, zq_C, zq_D, zq_E, zq_F, zq_G, zq_H, zq_I, zq_J, zq_K, zq_L, ↓zq_M, ↓zq_N, ↓zq_O, ↓zq_P, ↓zq_Q, ↓zq_R, zq_S, zq_T, zq_U, zq_V, zq_W, zq_X, zq_Y, zq_Z, zq_0, zq_1, zq_2, zq_3, zq_4, zq_5, ↓zq_6, ↓zq_7, ↓zq_8, ↓zq_9, ↓zq_aa, zq_ab, zq_ac, zq_ad, zq_ae, zq_af, zq_ag, ↓zq_ah, ↓zq_ai, ↓zq_aj, zq_ak, ↓zq_al, ↓zq_am, e_b1, e_b2, x_o1, x_o2, f5, f6, q, tg, ip, ik, kz, q3, q3n, w1]
        · rw [if_neg c2] at ik
          refine ⟨0, ?_, fun h => absurd rfl h, fun h => absurd h (bad (fun h => c2 h.1.2))⟩
          clear bad ih hg hE z1 z2 z3 c1 c2 mk
          generalize (n : Int) = nn at *
          generalize E k = ek at *
          rw [E_V_eq]
          show e_tv E_C (E_V 163) e_t163_21 [8, s, x2, x3] M = _
          unfold e_t163_21
          simp [zq_a, zq_b, zq_c, zq_d, zq_e, zq_f, zq_g, zq_h, zq_i, zq_j, zq_k, zq_l, zq_m, zq_n, zq_o, zq_p, zq_q, zq_r, zq_s, zq_t, zq_u, zq_v, zq_w, zq_x, zq_y, zq_z, zq_A, zq_B, zq_C, zq_D, zq_E, zq_F, zq_G, zq_H, zq_I, zq_J, zq_K, zq_L, ↓zq_M, ↓zq_N, ↓zq_O, ↓zq_P, ↓zq_Q, ↓zq_R, zq_S, zq_T, zq_U, zq_V, zq_W, zq_X, zq_Y, zq_Z, zq_0, zq_1, zq_2, zq_3, zq_4, zq_5, ↓zq_6, ↓zq_7, ↓zq_8, ↓zq_9, ↓zq_aa, zq_ab, zq_ac, zq_ad, zq_ae, zq_af, zq_ag, ↓zq_ah, ↓zq_ai, ↓zq_aj, zq_ak, ↓zq_al, ↓zq_am, e_b1, e_b2, x_o1, x_o2, f5, f6, q, tg, ip, ik]
      · rw [if_neg c1] at ip
        refine ⟨0, ?_, fun h => absurd rfl h, fun h => absurd h (bad (fun h => c1 h.1.1))⟩
        clear bad ih hg hE z1 z2 z3 c1
        generalize (n : Int) = nn at *
        generalize E k = ek at *
        rw [E_V_eq]
        show e_tv E_C (E_V 163) e_t163_21 [8, s, x2, x3] M = _
        unfold e_t163_21
        simp [zq_a, zq_b, zq_c, zq_d, zq_e, zq_f, zq_g, zq_h, zq_i, zq_j, zq_k, zq_l, zq_m, zq_n, zq_o, zq_p, zq_q, zq_r, zq_s, zq_t, zq_u, zq_v, zq_w, zq_x, zq_y, zq_z, zq_A, zq_B, zq_C, zq_D, zq_E, zq_F, zq_G, zq_H, zq_I, zq_J, zq_K, zq_L, ↓zq_M, ↓zq_N, ↓zq_O, ↓zq_P, ↓zq_Q, ↓zq_R, zq_S, zq_T, zq_U, zq_V, zq_W, zq_X, zq_Y, zq_Z, zq_0, zq_1, zq_2, zq_3, zq_4, zq_5, ↓zq_6, ↓zq_7, ↓zq_8, ↓zq_9, ↓zq_aa, zq_ab, zq_ac, zq_ad, zq_ae, zq_af, zq_ag, ↓zq_ah, ↓zq_ai, ↓zq_aj, zq_ak, ↓zq_al, ↓zq_am, e_b1, e_b2, x_o1, x_o2, f5, f6, q, tg, ip]
  have s0 : E_C 163 [8, s] M = e_tv E_C (E_V 163) e_t163_0 [8, s, 0, 0] M := r_ent (u := 163) (as := [8, s]) (M := M) (decide_eq_true c_this)
  rw [s0]
  unfold e_t163_0 pt_g
  by_cases c : 2 ≤ n ∧ n ≤ 8
  · obtain ⟨z, kz, hz⟩ := lp n 0 0 0 rfl (by omega) (fun j h => absurd h (Nat.not_lt_zero _))
    refine ⟨z, ?_, fun h => ⟨c, hz.mp h⟩, fun h => hz.mpr h.2⟩
    have c1 : 2 ≤ (n : Int) := by omega
    have c1n : ¬ (n : Int) < 2 := by omega
    have c2 : (n : Int) ≤ 8 := by omega
    have c2n : ¬ 8 < (n : Int) := by omega
    clear lp hE hz
    generalize (n : Int) = nn at *
    simp [zq_a, zq_b, zq_c, zq_d, zq_e, zq_f, zq_g, zq_h, zq_i, zq_j, zq_k, zq_l, zq_m, zq_n, zq_o, zq_p, zq_q, zq_r, zq_s, zq_t, zq_u, zq_v, zq_w, zq_x, zq_y, zq_z, zq_A, zq_B, zq_C, zq_D, zq_E, zq_F, zq_G, zq_H, zq_I, zq_J, zq_K, zq_L, ↓zq_M, ↓zq_N, ↓zq_O, ↓zq_P, ↓zq_Q, ↓zq_R, zq_S, zq_T, zq_U, zq_V, zq_W, zq_X, zq_Y, zq_Z, zq_0, zq_1, zq_2, zq_3, zq_4, zq_5, ↓zq_6, ↓zq_7, ↓zq_8, ↓zq_9, ↓zq_aa, zq_ab, zq_ac, zq_ad, zq_ae, zq_af, zq_ag, ↓zq_ah, ↓zq_ai, ↓zq_aj, zq_ak, ↓zq_al, ↓zq_am, e_b1, e_b2, x_o1, x_o2, f5, c1, c1n, c2, c2n, kz]
  · refine ⟨0, ?_, fun h => absurd rfl h, fun h => absurd h.1 c⟩
    have c' : (n : Int) < 2 ∨ 8 < (n : Int) := by omega
    clear lp hE c
    generalize (n : Int) = nn at *
    rcases c' with c1 | c1
    · have c1n : ¬ 2 ≤ nn := by omega
      simp [zq_a, zq_b, zq_c, zq_d, zq_e, zq_f, zq_g, zq_h, zq_i, zq_j, zq_k, zq_l, zq_m, zq_n, zq_o, zq_p, zq_q, zq_r, zq_s, zq_t, zq_u, zq_v, zq_w, zq_x, zq_y, zq_z, zq_A, zq_B, zq_C, zq_D, zq_E, zq_F, zq_G, zq_H, zq_I, zq_J, zq_K, zq_L, ↓zq_M, ↓zq_N, ↓zq_O, ↓zq_P, ↓zq_Q, ↓zq_R, zq_S, zq_T, zq_U, zq_V, zq_W, zq_X, zq_Y, zq_Z, zq_0, zq_1, zq_2, zq_3, zq_4, zq_5, ↓zq_6, ↓zq_7, ↓zq_8, ↓zq_9, ↓zq_aa, zq_ab, zq_ac, zq_ad, zq_ae, zq_af, zq_ag, ↓zq_ah, ↓zq_ai, ↓zq_aj, zq_ak, ↓zq_al, ↓zq_am, e_b1, e_b2, x_o1, x_o2, f5, c1, c1n]
    · have c1n : ¬ nn ≤ 8 := by omega
      have c2 : 2 ≤ nn := by omega
      have c2n : ¬ nn < 2 := by omega
      simp [zq_a, zq_b, zq_c, zq_d, zq_e, zq_f, zq_g, zq_h, zq_i, zq_j, zq_k, zq_l, zq_m, zq_n, zq_o, zq_p, zq_q, zq_r, zq_s, zq_t, zq_u, zq_v, zq_w, zq_x, zq_y, zq_z, zq_A, zq_B, zq_C, zq_D, zq_E, zq_F, zq_G, zq_H, zq_I, zq_J, zq_K, zq_L, ↓zq_M, ↓zq_N, ↓zq_O, ↓zq_P, ↓zq_Q, ↓zq_R, zq_S, zq_T, zq_U, zq_V, zq_W, zq_X, zq_Y, zq_Z, zq_0, zq_1, zq_2, zq_3, zq_4, zq_5, ↓zq_6, ↓zq_7, ↓zq_8, ↓zq_9, ↓zq_aa, zq_ab, zq_ac, zq_ad, zq_ae, zq_af, zq_ag, ↓zq_ah, ↓zq_ai, ↓zq_aj, zq_ak, ↓zq_al, ↓zq_am, e_b1, e_b2, x_o1, x_o2, f5, c1, c1n, c2, c2n]
/-- the told CELLS spread out -/
theorem pt_2 (hh : s ∈ a_SH) (hn : n ≤ 40) (h5 : M s.toNat 5 = n) (hE : ∀ k, k < n → M (s + 1).toNat k = E k) (hE4 : ∀ k, k < n → 0 ≤ E k ∧ E k < 40) (h120 : n ≤ 120) : ∃ N, E_C 2 [170, s] M = some (0, N) ∧ N 170 0 = n ∧ (∀ k, k < n → bx_cell M N k (E k).toNat (k : Int)) ∧ ∀ id k, ¬ (170 ≤ id ∧ id ≤ 176) → N id k = M id k := by
  obtain ⟨g1, g2, g3, g4, g5, g6, g7⟩ := w_sh hh
  have f6 : ∀ K, e_gf 518 [s] K = some (s + 1) := fun K => (c_gr g1 (by decide +kernel)).trans (congrArg some g5)
  have lp : ∀ (t j : Nat) (x2 : Int) (N : EM), x2 = j → j + t = n → N 170 0 = (j : Int) → (∀ k, k < j → bx_cell M N k (E k).toNat (k : Int)) → (∀ id k, ¬ (170 ≤ id ∧ id ≤ 176) → N id k = M id k) → ∃ N', E_V 2 6 [170, s, x2] N = some (0, N') ∧ N' 170 0 = n ∧ (∀ k, k < n → bx_cell M N' k (E k).toNat (k : Int)) ∧ ∀ id k, ¬ (170 ≤ id ∧ id ≤ 176) → N' id k = M id k := by
    intro t
    induction t with
    | zero =>
      intro j x2 N h2 hj h0 hc hf
      have e : j = n := by omega
      subst e
      refine ⟨N, ?_, h0, hc, hf⟩
      have f5 := (h_sf hh N).2.2.2
      rw [hf _ _ (by omega), h5] at f5
      have q : ¬ (x2 < (j : Int)) := by omega
      clear hc hf hE hE4 h0
      generalize (j : Int) = nn at *
      rw [E_V_eq]
      show e_tv E_C (E_V 2) e_t2_6 [170, s, x2] N = _
      unfold e_t2_6
      simp [zq_a, zq_b, zq_c, zq_d, zq_e, zq_f, zq_g, zq_h, zq_i, zq_j, zq_k, zq_l, zq_m, zq_n, zq_o, zq_p, zq_q, zq_r, zq_s, zq_t, zq_u, zq_v, zq_w, zq_x, zq_y, zq_z, zq_A, zq_B, zq_C, zq_D, zq_E, zq_F, zq_G, zq_H, zq_I, zq_J, zq_K, zq_L, ↓zq_M, ↓zq_N, ↓zq_O, ↓zq_P, ↓zq_Q, ↓zq_R, zq_S, zq_T, zq_U, zq_V, zq_W, zq_X, zq_Y, zq_Z, zq_0, zq_1, zq_2, zq_3, zq_4, zq_5, ↓zq_6, ↓zq_7, ↓zq_8, ↓zq_9, ↓zq_aa, zq_ab, zq_ac, zq_ad, zq_ae, zq_af, zq_ag, ↓zq_ah, ↓zq_ai, ↓zq_aj, zq_ak, ↓zq_al, ↓zq_am, e_b1, e_b2, x_o1, x_o2, f5, q]
    | succ t ih =>
      intro j x2 N h2 hj h0 hc hf
      have f5 := (h_sf hh N).2.2.2
      rw [hf _ _ (by omega), h5] at f5
      have q : x2 < (n : Int) := by omega
      have tg : E_C 146 [s + 1, x2] N = some (E j, N) := (w_atN (a := s + 1) (n := 120) ⟨g2, g3, g4⟩ (j := j) h2 (by omega) N).trans (by rw [hf _ _ (by omega), hE _ (by omega)])
      have w1 : e_w (x2 + 1) = x2 + 1 := a_w_id (by omega) (by omega)
      have e4 := hE4 j (by omega)
      obtain ⟨N1, k5, ⟨c1, c2, c3, c4⟩, n0, fr⟩ := bx_5 (q := (E j).toNat) (q0 := E j) (y := x2) (M := N) h0 (by omega) (by omega) (by omega)
      obtain ⟨N', k, kk⟩ := ih (j + 1) (x2 + 1) N1 (by omega) (by omega) (by rw [n0]; omega) (fun k hk => by
        by_cases e : k = j
        · subst e
          exact ⟨c1, c2.trans h2, c3.trans (hf _ _ (by omega)), fun a ha => (c4 a ha).trans (hf _ _ (by omega))⟩
        · obtain ⟨d1, d2, d3, d4⟩ := hc k (by omega)
          exact ⟨(fr _ _ (by omega) (by omega) (by omega) (by omega) (by omega)).trans d1, (fr _ _ (by omega) (by omega) (by omega) (by omega) (by omega)).trans d2, (fr _ _ (by omega) (by omega) (by omega) (by omega) (by omega)).trans d3, fun a ha => (fr _ _ (by omega) (by omega) (by omega) (by omega) (by omega)).trans (d4 a ha)⟩) (fun id k h => (fr _ _ (by omega) (by omega) (by omega) (by omega) (by omega)).trans (hf id k h))
      refine ⟨N', ?_, kk⟩
      rw [← k]
      clear hc hf hE hE4 h0 c1 c2 c3 c4 n0 fr k kk ih
      generalize (n : Int) = nn at *
      generalize E j = ej at *
      rw [E_V_eq]
      show e_tv E_C (E_V 2) e_t2_6 [170, s, x2] N = _
      unfold e_t2_6
      simp [zq_a, zq_b, zq_c, zq_d, zq_e, zq_f, zq_g, zq_h, zq_i, zq_j, zq_k, zq_l, zq_m, zq_n, zq_o, zq_p, zq_q, zq_r, zq_s, zq_t, zq_u, zq_v, zq_w, zq_x, zq_y, zq_z, zq_A, zq_B, zq_C, zq_D, zq_E, zq_F, zq_G, zq_H, zq_I, zq_J, zq_K, zq_L, ↓zq_M, ↓zq_N, ↓zq_O, ↓zq_P, ↓zq_Q, ↓zq_R, zq_S, zq_T, zq_U, zq_V, zq_W, zq_X, zq_Y, zq_Z, zq_0, zq_1, zq_2, zq_3, zq_4, zq_5, ↓zq_6, ↓zq_7, ↓zq_8, ↓zq_9, ↓zq_aa, zq_ab, zq_ac, zq_ad, zq_ae, zq_af, zq_ag, ↓zq_ah, ↓zq_ai, ↓zq_aj, zq_ak, ↓zq_al, ↓zq_am, e_b1, e_b2, x_o1, x_o2, f5, f6, q, tg, w1, k5]
  obtain ⟨N, k, kk⟩ := lp n 0 0 (bx_cl M) rfl (by omega) (by unfold bx_cl bx_fl; rw [if_neg (by omega), c_up_n (by omega), c_up_n (by omega), c_up_s]; rfl) (fun k h => absurd h (Nat.not_lt_zero _)) (fun id k h => by unfold bx_cl bx_fl; rw [if_neg (by omega), c_up_n (by omega), c_up_n (by omega), c_up_n (by omega)])
  refine ⟨N, ?_, kk⟩
  have cl := bx_clear M
  generalize bx_cl M = Z at *
  rw [r_ent (show e_rok 2 [170, s] = true from bx_r (M := M) rfl (by decide +kernel))]
  show e_tv E_C (E_V 2) e_t2_0 [170, s, 0] M = _
  unfold e_t2_0
  simp [zq_a, zq_b, zq_c, zq_d, zq_e, zq_f, zq_g, zq_h, zq_i, zq_j, zq_k, zq_l, zq_m, zq_n, zq_o, zq_p, zq_q, zq_r, zq_s, zq_t, zq_u, zq_v, zq_w, zq_x, zq_y, zq_z, zq_A, zq_B, zq_C, zq_D, zq_E, zq_F, zq_G, zq_H, zq_I, zq_J, zq_K, zq_L, ↓zq_M, ↓zq_N, ↓zq_O, ↓zq_P, ↓zq_Q, ↓zq_R, zq_S, zq_T, zq_U, zq_V, zq_W, zq_X, zq_Y, zq_Z, zq_0, zq_1, zq_2, zq_3, zq_4, zq_5, ↓zq_6, ↓zq_7, ↓zq_8, ↓zq_9, ↓zq_aa, zq_ab, zq_ac, zq_ad, zq_ae, zq_af, zq_ag, ↓zq_ah, ↓zq_ai, ↓zq_aj, zq_ak, ↓zq_al, ↓zq_am, e_b1, e_b2, x_o1, x_o2, cl, k]
end PTC
/-- PUSHES of the told CELLS -/
def pt_V (g : Int → Int) (E : Nat → Int) (k c : Nat) : Int := cu_v g (hd_SH g) (hd_WM g) (E k) (c : Int)
theorem pt_Vv {M : EM} {g : Int → Int} {E : Nat → Int} {n : Nat} (hC : h_C M 0 g) (hD : hd_D M 0 g) (hg : pt_g g E n) : pt_v (pt_V g E) n := by
  have key : ∀ j c, j < n → (-20 ≤ cu_v g (hd_SH g) (hd_WM g) (E j) ((c : Nat) : Int) ∧ cu_v g (hd_SH g) (hd_WM g) (E j) (c : Int) ≤ 60) ∧ cu_v g (hd_SH g) (hd_WM g) (E j) ((c : Int) + 1) ≤ cu_v g (hd_SH g) (hd_WM g) (E j) (c : Int) := fun j c hj => by
    obtain ⟨⟨⟨e0, e1⟩, e2⟩, -⟩ := hg.2 j hj
    obtain ⟨q, hq⟩ : ∃ q : Nat, E j = q := ⟨(E j).toNat, by omega⟩
    rw [hq] at e1 e2 ⊢
    obtain ⟨b1, b2⟩ := hd_bd hC q e1 e2
    exact cu_v_bd ((hD q e1).1 e2).1 b1 b2 (by omega)
  refine ⟨fun j c hj hc => ?_, fun j c hj hc => ?_⟩
  · have := (key j c hj).1
    unfold pt_V
    omega
  · have := (key j c hj).2
    unfold pt_V
    rw [show ((c + 1 : Nat) : Int) = (c : Int) + 1 by omega]
    exact this
/-- the class's PARTING -/
theorem pt_cl {M : EM} {s : Int} {E : Nat → Int} {n : Nat} (h : hd_all M) (hh : s ∈ a_SH) (h5 : M s.toNat 5 = n) (hE : ∀ k, k < n → M (s + 1).toNat k = E k) (hg : pt_g (r_G M) E n) : ∃ N M', E_C 2 [170, s] M = some (0, N) ∧ E_C 27 [170] N = some (((pt_b (pt_P (pt_V (r_G M) E) n) ((2 ^ n - 1) / 2)).2 : Int), M') ∧ M' 170 1 = (pt_b (pt_P (pt_V (r_G M) E) n) ((2 ^ n - 1) / 2)).1 := by
  obtain ⟨hB, hC, hD, -⟩ := h
  have h40 := hB.2.1.2
  have e40 : ∀ k, k < n → 0 ≤ E k ∧ E k < 40 := fun k hk => by
    have := (hg.2 k hk).1.1
    omega
  obtain ⟨n2, n8⟩ := hg.1
  obtain ⟨N, k2, n0, nc, nf⟩ := pt_2 hh (by omega) h5 hE e40 (by omega)
  have kn : ∀ j, j < n → bx_kn (r_G M) (hd_SH (r_G M)) (hd_WM (r_G M)) N j := fun j hj => by
    obtain ⟨⟨⟨e0, e1⟩, e2⟩, -⟩ := hg.2 j hj
    obtain ⟨q, hq⟩ : ∃ q : Nat, E j = q := ⟨(E j).toNat, by omega⟩
    have c := nc j hj
    rw [hq] at e1 e2
    rw [hq, Int.toNat_natCast] at c
    exact hd_kn hC e1 e2 c
  have eM : ∀ id, id < 162 → N id = M id := fun id hid => funext fun k => nf _ _ (by omega)
  obtain ⟨A, k11, a1, a2⟩ := bx_11 (n := n) n0 (by omega) h40 (fun q hq h0 => bx_d0_cg eM ((hD q hq).1 h0)) kn
  have KA : pt_K (pt_V (r_G M) E) n A := ⟨(a2 _ _ (by decide)).trans n0, fun j c hj hc => by
    rw [a1 j c hj hc, (nc j hj).1]
    unfold pt_V
    rw [show (((E j).toNat : Nat) : Int) = E j by have := e40 j hj; omega]⟩
  obtain ⟨M', k27, m1⟩ := pt_27 ⟨n2, n8⟩ k11 KA (pt_Vv hC hD hg)
  exact ⟨N, M', k2, k27, m1⟩
