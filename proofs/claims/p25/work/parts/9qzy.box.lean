section
/-! box: the two answers; what BOXES seek by stays related -/
def ax_b (M : EM) (s : Nat) (a b : Int) : EM := e_up (e_up (e_up (e_up (e_up M s 0 a) s 1 b) s 2 0) s 3 0) s 4 0
def ax_Bq (w v : Int) : Prop := (w = 0 ∧ 0 ≤ v ∧ v ≤ 500) ∨ (w = 1 ∧ 1 ≤ v ∧ v ≤ 40)
/-- what one BOX seeks by has changed -/
theorem hd_box {M M' : EM} {q : Nat} (hD : hd_D M 0 (r_G M)) (k3 : r_G M (28 * (q : Int)) = 3) (hq : (q : Int) < r_G M 1198) (h40 : r_G M 1198 ≤ 40) (hg : ∀ x : Int, 0 ≤ x → (x < 28 * (q : Int) + 4 ∨ 28 * (q : Int) + 9 ≤ x) → r_G M' x = r_G M x) (hc : ∀ id k, id < 162 → id ≠ 37 + q → M' id k = M id k) (he : hd_e3 M' 0 (r_G M') q) : hd_D M' 0 (r_G M') := by
  have q40 : q < 40 := by omega
  intro t ht
  rw [hg 1198 (by decide) (by omega)] at ht
  by_cases e : t = q
  · subst e
    obtain ⟨-, -, -, d3⟩ := hD t hq
    obtain ⟨⟨b1, b2, b3, b4, b5⟩, -⟩ := d3 k3
    have z3 : ∀ i : Nat, i < 1 → r_G M' (28 * (t : Int) + 3 + (i : Int)) = r_G M (28 * (t : Int) + 3 + (i : Int)) := fun i hi => hg _ (by omega) (by omega)
    obtain ⟨f1, f2⟩ := hd_mb_cg (dc' := 0) b4 (by decide : 0 < 1) (by decide) z3 (fun m m0 m1 => ⟨hg _ (by omega) (by omega), fun _ => hg _ (by omega) (by omega)⟩) (hc _ _ (by decide) (by omega))
    have e0 : r_G M' (28 * (t : Int)) = 3 := (hg _ (by omega) (by omega)).trans k3
    refine ⟨fun h => absurd (e0.symm.trans h) (by decide), fun h => absurd (e0.symm.trans h) (by decide), fun h => absurd (e0.symm.trans h) (by decide), fun _ => ⟨⟨(hg _ (by omega) (by omega)).trans b1, (hc _ _ (by decide) (by omega)).trans b2, (hc _ _ (by decide) (by omega)).trans b3, f1, by rw [f2]; exact b5⟩, he⟩⟩
  · exact hd_q_cg (hD t ht) ⟨hg _ (by omega) (by omega), hg _ (by omega) (by omega), fun d d0 d1 _ _ => hg _ (by omega) (by omega)⟩ (fun m m0 m1 => ⟨hg _ (by omega) (by omega), fun _ => hg _ (by omega) (by omega)⟩) ⟨hc _ _ (by decide) (by omega), hc _ _ (by decide) (by omega), fun k _ => ⟨hc _ _ (by decide) (by omega), hc _ _ (by decide) (by omega), hc _ _ (by decide) (by omega)⟩, fun i _ => ⟨hc _ _ (by decide) (by omega), hc _ _ (by decide) (by omega)⟩, fun k _ => hc _ _ (by omega) (by omega)⟩
section AXX
variable {M M1 M2 : EM} {p w v r1 r2 : Int}
theorem ax_81 {s : Nat} (is : e_isO 7 (s : Int)) (a b : Int) (M : EM) : E_C 81 [(s : Int), a, b] M = some (0, ax_b M s a b) := by
  have w0 : ∀ v M, e_pf 448 [(s : Int), v] M = some (e_up M s 0 v) := fun v M => c_pf is (by decide +kernel)
  have w1 : ∀ v M, e_pf 449 [(s : Int), v] M = some (e_up M s 1 v) := fun v M => c_pf is (by decide +kernel)
  have w2 : ∀ v M, e_pf 450 [(s : Int), v] M = some (e_up M s 2 v) := fun v M => c_pf is (by decide +kernel)
  have w3 : ∀ v M, e_pf 451 [(s : Int), v] M = some (e_up M s 3 v) := fun v M => c_pf is (by decide +kernel)
  have w4 : ∀ v M, e_pf 452 [(s : Int), v] M = some (e_up M s 4 v) := fun v M => c_pf is (by decide +kernel)
  rw [r_ent (show e_rok 81 [(s : Int), a, b] = true from decide_eq_true is)]
  show e_tv E_C (E_V 81) e_t81_0 [(s : Int), a, b] M = _
  unfold e_t81_0 ax_b
  simp [zq_a, zq_b, zq_c, zq_d, zq_e, zq_f, zq_g, zq_h, zq_i, zq_j, zq_k, zq_l, zq_m, zq_n, zq_o, zq_p, zq_q, zq_r, zq_s, zq_t, zq_u, zq_v, zq_w, zq_x, zq_y, zq_z, zq_A, zq_B, zq_C, zq_D, zq_E, zq_F, zq_G, zq_H, zq_I, zq_J, zq_K, zq_L, ↓zq_M, ↓zq_N, ↓zq_O, ↓zq_P, ↓zq_Q, ↓zq_R, zq_S, zq_T, zq_U, zq_V, zq_W, zq_X, zq_Y, zq_Z, zq_0, zq_1, zq_2, zq_3, zq_4, zq_5, ↓zq_6, ↓zq_7, ↓zq_8, ↓zq_9, ↓zq_aa, zq_ab, zq_ac, zq_ad, zq_ae, zq_af, zq_ag, ↓zq_ah, ↓zq_ai, ↓zq_aj, zq_ak, ↓zq_al, ↓zq_am, e_b1, e_b2, x_o1, x_o2, w0, w1, w2, w3, w4]
/-- the seeker of a BOX -/
theorem ax_155 {q : Nat} (h : q < 40) : E_C 155 [8, (q : Int)] M = some (if M 11 q = 3 then ((37 + q : Nat) : Int) else -1, M) := by
  have j := h_150 (p := (q : Int)) (k := 3) (M := M) ⟨by omega, by omega⟩
  rw [Int.toNat_natCast] at j
  have r1 := (p_rd25 h M).1
  have r2 := (p_len25 M).1
  have b1 : (0 : Int) ≤ (q : Int) := by omega
  have b2 : (q : Int) < 40 := by omega
  revert j
  generalize M 11 q = kk
  intro j
  revert r1
  generalize ((37 + q : Nat) : Int) = ss
  intro r1
  generalize (q : Int) = pp at *
  have s0 : E_C 155 [8, pp] M = e_tv E_C (E_V 155) e_t155_0 [8, pp, 0] M := r_ent (u := 155) (as := [8, pp]) (M := M) (decide_eq_true c_this)
  rw [s0]
  unfold e_t155_0
  by_cases c : kk = 3
  · rw [if_pos c] at j ⊢
    simp [zq_a, zq_b, zq_c, zq_d, zq_e, zq_f, zq_g, zq_h, zq_i, zq_j, zq_k, zq_l, zq_m, zq_n, zq_o, zq_p, zq_q, zq_r, zq_s, zq_t, zq_u, zq_v, zq_w, zq_x, zq_y, zq_z, zq_A, zq_B, zq_C, zq_D, zq_E, zq_F, zq_G, zq_H, zq_I, zq_J, zq_K, zq_L, ↓zq_M, ↓zq_N, ↓zq_O, ↓zq_P, ↓zq_Q, ↓zq_R, zq_S, zq_T, zq_U, zq_V, zq_W, zq_X, zq_Y, zq_Z, zq_0, zq_1, zq_2, zq_3, zq_4, zq_5, ↓zq_6, ↓zq_7, ↓zq_8, ↓zq_9, ↓zq_aa, zq_ab, zq_ac, zq_ad, zq_ae, zq_af, zq_ag, ↓zq_ah, ↓zq_ai, ↓zq_aj, zq_ak, ↓zq_al, ↓zq_am, e_b1, e_b2, x_o1, x_o2, p_704, w_H2, j, r1, r2, b1, b2]
  · rw [if_neg c] at j ⊢
    simp [zq_a, zq_b, zq_c, zq_d, zq_e, zq_f, zq_g, zq_h, zq_i, zq_j, zq_k, zq_l, zq_m, zq_n, zq_o, zq_p, zq_q, zq_r, zq_s, zq_t, zq_u, zq_v, zq_w, zq_x, zq_y, zq_z, zq_A, zq_B, zq_C, zq_D, zq_E, zq_F, zq_G, zq_H, zq_I, zq_J, zq_K, zq_L, ↓zq_M, ↓zq_N, ↓zq_O, ↓zq_P, ↓zq_Q, ↓zq_R, zq_S, zq_T, zq_U, zq_V, zq_W, zq_X, zq_Y, zq_Z, zq_0, zq_1, zq_2, zq_3, zq_4, zq_5, ↓zq_6, ↓zq_7, ↓zq_8, ↓zq_9, ↓zq_aa, zq_ab, zq_ac, zq_ad, zq_ae, zq_af, zq_ag, ↓zq_ah, ↓zq_ai, ↓zq_aj, zq_ak, ↓zq_al, ↓zq_am, e_b1, e_b2, x_o1, x_o2, p_704, w_H2, j, r2, b1, b2]
theorem ax_114s : E_C 114 [8, p, w, v] M = e_tv E_C (E_V 114) e_t114_0 [8, p, w, v, 0, 0] M := r_ent (u := 114) (as := [8, p, w, v]) (M := M) (decide_eq_true c_this)
theorem ax_114a {i : Int} (ip : E_C 149 [8, p] M = some (i, M)) (h : i = 0 ∨ (i = 1 ∧ ¬ ax_Bq w v)) : E_C 114 [8, p, w, v] M = some (-1, M) := by
  rw [ax_114s]
  unfold e_t114_0
  rcases h with h | ⟨h, hb⟩
  · subst h
    simp [zq_a, zq_b, zq_c, zq_d, zq_e, zq_f, zq_g, zq_h, zq_i, zq_j, zq_k, zq_l, zq_m, zq_n, zq_o, zq_p, zq_q, zq_r, zq_s, zq_t, zq_u, zq_v, zq_w, zq_x, zq_y, zq_z, zq_A, zq_B, zq_C, zq_D, zq_E, zq_F, zq_G, zq_H, zq_I, zq_J, zq_K, zq_L, ↓zq_M, ↓zq_N, ↓zq_O, ↓zq_P, ↓zq_Q, ↓zq_R, zq_S, zq_T, zq_U, zq_V, zq_W, zq_X, zq_Y, zq_Z, zq_0, zq_1, zq_2, zq_3, zq_4, zq_5, ↓zq_6, ↓zq_7, ↓zq_8, ↓zq_9, ↓zq_aa, zq_ab, zq_ac, zq_ad, zq_ae, zq_af, zq_ag, ↓zq_ah, ↓zq_ai, ↓zq_aj, zq_ak, ↓zq_al, ↓zq_am, e_b1, e_b2, x_o1, x_o2, ip]
  · subst h
    unfold ax_Bq at hb
    rcases x_le 0 w with ⟨c0, c0_n⟩ | ⟨c0, c0_n⟩
    · rcases x_le w 1 with ⟨c1, c1_n⟩ | ⟨c1, c1_n⟩
      · have e : w = 0 ∨ w = 1 := by omega
        rcases e with e | e
        · subst e
          rcases x_le 0 v with ⟨d0, d0_n⟩ | ⟨d0, d0_n⟩
          · have d1 : 500 < v := by omega
            simp [zq_a, zq_b, zq_c, zq_d, zq_e, zq_f, zq_g, zq_h, zq_i, zq_j, zq_k, zq_l, zq_m, zq_n, zq_o, zq_p, zq_q, zq_r, zq_s, zq_t, zq_u, zq_v, zq_w, zq_x, zq_y, zq_z, zq_A, zq_B, zq_C, zq_D, zq_E, zq_F, zq_G, zq_H, zq_I, zq_J, zq_K, zq_L, ↓zq_M, ↓zq_N, ↓zq_O, ↓zq_P, ↓zq_Q, ↓zq_R, zq_S, zq_T, zq_U, zq_V, zq_W, zq_X, zq_Y, zq_Z, zq_0, zq_1, zq_2, zq_3, zq_4, zq_5, ↓zq_6, ↓zq_7, ↓zq_8, ↓zq_9, ↓zq_aa, zq_ab, zq_ac, zq_ad, zq_ae, zq_af, zq_ag, ↓zq_ah, ↓zq_ai, ↓zq_aj, zq_ak, ↓zq_al, ↓zq_am, e_b1, e_b2, x_o1, x_o2, ip, d0, d0_n, d1]
          · simp [zq_a, zq_b, zq_c, zq_d, zq_e, zq_f, zq_g, zq_h, zq_i, zq_j, zq_k, zq_l, zq_m, zq_n, zq_o, zq_p, zq_q, zq_r, zq_s, zq_t, zq_u, zq_v, zq_w, zq_x, zq_y, zq_z, zq_A, zq_B, zq_C, zq_D, zq_E, zq_F, zq_G, zq_H, zq_I, zq_J, zq_K, zq_L, ↓zq_M, ↓zq_N, ↓zq_O, ↓zq_P, ↓zq_Q, ↓zq_R, zq_S, zq_T, zq_U, zq_V, zq_W, zq_X, zq_Y, zq_Z, zq_0, zq_1, zq_2, zq_3, zq_4, zq_5, ↓zq_6, ↓zq_7, ↓zq_8, ↓zq_9, ↓zq_aa, zq_ab, zq_ac, zq_ad, zq_ae, zq_af, zq_ag, ↓zq_ah, ↓zq_ai, ↓zq_aj, zq_ak, ↓zq_al, ↓zq_am, e_b1, e_b2, x_o1, x_o2, ip, d0, d0_n]
        · subst e
          rcases x_le 1 v with ⟨d0, d0_n⟩ | ⟨d0, d0_n⟩
          · have d1 : 40 < v := by omega
            simp [zq_a, zq_b, zq_c, zq_d, zq_e, zq_f, zq_g, zq_h, zq_i, zq_j, zq_k, zq_l, zq_m, zq_n, zq_o, zq_p, zq_q, zq_r, zq_s, zq_t, zq_u, zq_v, zq_w, zq_x, zq_y, zq_z, zq_A, zq_B, zq_C, zq_D, zq_E, zq_F, zq_G, zq_H, zq_I, zq_J, zq_K, zq_L, ↓zq_M, ↓zq_N, ↓zq_O, ↓zq_P, ↓zq_Q, ↓zq_R, zq_S, zq_T, zq_U, zq_V, zq_W, zq_X, zq_Y, zq_Z, zq_0, zq_1, zq_2, zq_3, zq_4, zq_5, ↓zq_6, ↓zq_7, ↓zq_8, ↓zq_9, ↓zq_aa, zq_ab, zq_ac, zq_ad, zq_ae, zq_af, zq_ag, ↓zq_ah, ↓zq_ai, ↓zq_aj, zq_ak, ↓zq_al, ↓zq_am, e_b1, e_b2, x_o1, x_o2, ip, d0, d0_n, d1]
          · simp [zq_a, zq_b, zq_c, zq_d, zq_e, zq_f, zq_g, zq_h, zq_i, zq_j, zq_k, zq_l, zq_m, zq_n, zq_o, zq_p, zq_q, zq_r, zq_s, zq_t, zq_u, zq_v, zq_w, zq_x, zq_y, zq_z, zq_A, zq_B, zq_C, zq_D, zq_E, zq_F, zq_G, zq_H, zq_I, zq_J, zq_K, zq_L, ↓zq_M, ↓zq_N, ↓zq_O, ↓zq_P, ↓zq_Q, ↓zq_R, zq_S, zq_T, zq_U, zq_V, zq_W, zq_X, zq_Y, zq_Z, zq_0, zq_1, zq_2, zq_3, zq_4, zq_5, ↓zq_6, ↓zq_7, ↓zq_8, ↓zq_9, ↓zq_aa, zq_ab, zq_ac, zq_ad, zq_ae, zq_af, zq_ag, ↓zq_ah, ↓zq_ai, ↓zq_aj, zq_ak, ↓zq_al, ↓zq_am, e_b1, e_b2, x_o1, x_o2, ip, d0, d0_n]
      · simp [zq_a, zq_b, zq_c, zq_d, zq_e, zq_f, zq_g, zq_h, zq_i, zq_j, zq_k, zq_l, zq_m, zq_n, zq_o, zq_p, zq_q, zq_r, zq_s, zq_t, zq_u, zq_v, zq_w, zq_x, zq_y, zq_z, zq_A, zq_B, zq_C, zq_D, zq_E, zq_F, zq_G, zq_H, zq_I, zq_J, zq_K, zq_L, ↓zq_M, ↓zq_N, ↓zq_O, ↓zq_P, ↓zq_Q, ↓zq_R, zq_S, zq_T, zq_U, zq_V, zq_W, zq_X, zq_Y, zq_Z, zq_0, zq_1, zq_2, zq_3, zq_4, zq_5, ↓zq_6, ↓zq_7, ↓zq_8, ↓zq_9, ↓zq_aa, zq_ab, zq_ac, zq_ad, zq_ae, zq_af, zq_ag, ↓zq_ah, ↓zq_ai, ↓zq_aj, zq_ak, ↓zq_al, ↓zq_am, e_b1, e_b2, x_o1, x_o2, ip, c0, c0_n, c1, c1_n]
    · simp [zq_a, zq_b, zq_c, zq_d, zq_e, zq_f, zq_g, zq_h, zq_i, zq_j, zq_k, zq_l, zq_m, zq_n, zq_o, zq_p, zq_q, zq_r, zq_s, zq_t, zq_u, zq_v, zq_w, zq_x, zq_y, zq_z, zq_A, zq_B, zq_C, zq_D, zq_E, zq_F, zq_G, zq_H, zq_I, zq_J, zq_K, zq_L, ↓zq_M, ↓zq_N, ↓zq_O, ↓zq_P, ↓zq_Q, ↓zq_R, zq_S, zq_T, zq_U, zq_V, zq_W, zq_X, zq_Y, zq_Z, zq_0, zq_1, zq_2, zq_3, zq_4, zq_5, ↓zq_6, ↓zq_7, ↓zq_8, ↓zq_9, ↓zq_aa, zq_ab, zq_ac, zq_ad, zq_ae, zq_af, zq_ag, ↓zq_ah, ↓zq_ai, ↓zq_aj, zq_ak, ↓zq_al, ↓zq_am, e_b1, e_b2, x_o1, x_o2, ip, c0, c0_n]
theorem ax_114b (ip : E_C 149 [8, p] M = some (1, M)) (h : ax_Bq w v) (k : E_C 155 [8, p] M = some (-1, M)) : E_C 114 [8, p, w, v] M = some (-3, M) := by
  rw [ax_114s]
  unfold e_t114_0
  rcases h with ⟨rfl, d0, d1⟩ | ⟨rfl, d0, d1⟩
  · have d2 : ¬ 500 < v := by omega
    simp [zq_a, zq_b, zq_c, zq_d, zq_e, zq_f, zq_g, zq_h, zq_i, zq_j, zq_k, zq_l, zq_m, zq_n, zq_o, zq_p, zq_q, zq_r, zq_s, zq_t, zq_u, zq_v, zq_w, zq_x, zq_y, zq_z, zq_A, zq_B, zq_C, zq_D, zq_E, zq_F, zq_G, zq_H, zq_I, zq_J, zq_K, zq_L, ↓zq_M, ↓zq_N, ↓zq_O, ↓zq_P, ↓zq_Q, ↓zq_R, zq_S, zq_T, zq_U, zq_V, zq_W, zq_X, zq_Y, zq_Z, zq_0, zq_1, zq_2, zq_3, zq_4, zq_5, ↓zq_6, ↓zq_7, ↓zq_8, ↓zq_9, ↓zq_aa, zq_ab, zq_ac, zq_ad, zq_ae, zq_af, zq_ag, ↓zq_ah, ↓zq_ai, ↓zq_aj, zq_ak, ↓zq_al, ↓zq_am, e_b1, e_b2, x_o1, x_o2, ip, k, d0, d1, d2]
  · have d2 : ¬ 40 < v := by omega
    simp [zq_a, zq_b, zq_c, zq_d, zq_e, zq_f, zq_g, zq_h, zq_i, zq_j, zq_k, zq_l, zq_m, zq_n, zq_o, zq_p, zq_q, zq_r, zq_s, zq_t, zq_u, zq_v, zq_w, zq_x, zq_y, zq_z, zq_A, zq_B, zq_C, zq_D, zq_E, zq_F, zq_G, zq_H, zq_I, zq_J, zq_K, zq_L, ↓zq_M, ↓zq_N, ↓zq_O, ↓zq_P, ↓zq_Q, ↓zq_R, zq_S, zq_T, zq_U, zq_V, zq_W, zq_X, zq_Y, zq_Z, zq_0, zq_1, zq_2, zq_3, zq_4, zq_5, ↓zq_6, ↓zq_7, ↓zq_8, ↓zq_9, ↓zq_aa, zq_ab, zq_ac, zq_ad, zq_ae, zq_af, zq_ag, ↓zq_ah, ↓zq_ai, ↓zq_aj, zq_ak, ↓zq_al, ↓zq_am, e_b1, e_b2, x_o1, x_o2, ip, k, d0, d1, d2]
theorem ax_114c {s : Nat} (ip : E_C 149 [8, p] M = some (1, M)) (h : ax_Bq w v) (hs : 37 ≤ s ∧ s < 77) (k : E_C 155 [8, p] M = some ((s : Int), M)) : E_C 114 [8, p, w, v] M = some (M s w.toNat, ax_b M s (if w = 0 then v else M s 0) (if w = 0 then M s 1 else v)) := by
  have is : e_isO 7 (s : Int) := p_is7 (by omega)
  have g0 : ∀ M, e_gf 448 [(s : Int)] M = some (M s 0) := fun M => c_gf is (by decide +kernel)
  have g1 : ∀ M, e_gf 449 [(s : Int)] M = some (M s 1) := fun M => c_gf is (by decide +kernel)
  have n1 : ¬ ((s : Int) = -1) := by omega
  have b := fun a b M => ax_81 is a b M
  rw [ax_114s]
  unfold e_t114_0
  rcases h with ⟨rfl, d0, d1⟩ | ⟨rfl, d0, d1⟩
  · have d2 : ¬ 500 < v := by omega
    simp [zq_a, zq_b, zq_c, zq_d, zq_e, zq_f, zq_g, zq_h, zq_i, zq_j, zq_k, zq_l, zq_m, zq_n, zq_o, zq_p, zq_q, zq_r, zq_s, zq_t, zq_u, zq_v, zq_w, zq_x, zq_y, zq_z, zq_A, zq_B, zq_C, zq_D, zq_E, zq_F, zq_G, zq_H, zq_I, zq_J, zq_K, zq_L, ↓zq_M, ↓zq_N, ↓zq_O, ↓zq_P, ↓zq_Q, ↓zq_R, zq_S, zq_T, zq_U, zq_V, zq_W, zq_X, zq_Y, zq_Z, zq_0, zq_1, zq_2, zq_3, zq_4, zq_5, ↓zq_6, ↓zq_7, ↓zq_8, ↓zq_9, ↓zq_aa, zq_ab, zq_ac, zq_ad, zq_ae, zq_af, zq_ag, ↓zq_ah, ↓zq_ai, ↓zq_aj, zq_ak, ↓zq_al, ↓zq_am, e_b1, e_b2, x_o1, x_o2, ip, k, d0, d1, d2, g0, g1, n1, b]
  · have d2 : ¬ 40 < v := by omega
    simp [zq_a, zq_b, zq_c, zq_d, zq_e, zq_f, zq_g, zq_h, zq_i, zq_j, zq_k, zq_l, zq_m, zq_n, zq_o, zq_p, zq_q, zq_r, zq_s, zq_t, zq_u, zq_v, zq_w, zq_x, zq_y, zq_z, zq_A, zq_B, zq_C, zq_D, zq_E, zq_F, zq_G, zq_H, zq_I, zq_J, zq_K, zq_L, ↓zq_M, ↓zq_N, ↓zq_O, ↓zq_P, ↓zq_Q, ↓zq_R, zq_S, zq_T, zq_U, zq_V, zq_W, zq_X, zq_Y, zq_Z, zq_0, zq_1, zq_2, zq_3, zq_4, zq_5, ↓zq_6, ↓zq_7, ↓zq_8, ↓zq_9, ↓zq_aa, zq_ab, zq_ac, zq_ad, zq_ae, zq_af, zq_ag, ↓zq_ah, ↓zq_ai, ↓zq_aj, zq_ak, ↓zq_al, ↓zq_am, e_b1, e_b2, x_o1, x_o2, ip, k, d0, d1, d2, g0, g1, n1, b]
/-- the reference -/
theorem ax_214a {i : Int} (ip : E_C 169 [192, p] M = some (i, M)) (h : i = 0 ∨ (i = 1 ∧ ¬ ax_Bq w v)) : E_C 214 [192, p, w, v] M = some (-1, M) := by
  rcases h with h | ⟨h, hb⟩
  · subst h
    rw [r_ent (show e_rok 214 [192, p, w, v] = true from decide_eq_true r_ref)]
    show e_tv E_C (E_V 214) e_t214_0 [192, p, w, v, 0, 0] M = _
    unfold e_t214_0
    simp [zq_a, zq_b, zq_c, zq_d, zq_e, zq_f, zq_g, zq_h, zq_i, zq_j, zq_k, zq_l, zq_m, zq_n, zq_o, zq_p, zq_q, zq_r, zq_s, zq_t, zq_u, zq_v, zq_w, zq_x, zq_y, zq_z, zq_A, zq_B, zq_C, zq_D, zq_E, zq_F, zq_G, zq_H, zq_I, zq_J, zq_K, zq_L, ↓zq_M, ↓zq_N, ↓zq_O, ↓zq_P, ↓zq_Q, ↓zq_R, zq_S, zq_T, zq_U, zq_V, zq_W, zq_X, zq_Y, zq_Z, zq_0, zq_1, zq_2, zq_3, zq_4, zq_5, ↓zq_6, ↓zq_7, ↓zq_8, ↓zq_9, ↓zq_aa, zq_ab, zq_ac, zq_ad, zq_ae, zq_af, zq_ag, ↓zq_ah, ↓zq_ai, ↓zq_aj, zq_ak, ↓zq_al, ↓zq_am, e_b1, e_b2, x_o1, x_o2, ip]
  · subst h
    unfold ax_Bq at hb
    by_cases q1 : 0 ≤ w ∧ w ≤ 1
    · have i1 := r_in1 (M := M) q1
      have e : w = 0 ∨ w = 1 := by omega
      rcases e with e | e
      · subst e
        have i2 := r_in0 (M := M) (x := v) (lo := 0) (hi := 500) (by omega)
        rw [r_ent (show e_rok 214 [192, p, 0, v] = true from decide_eq_true r_ref)]
        show e_tv E_C (E_V 214) e_t214_0 [192, p, 0, v, 0, 0] M = _
        unfold e_t214_0
        simp [zq_a, zq_b, zq_c, zq_d, zq_e, zq_f, zq_g, zq_h, zq_i, zq_j, zq_k, zq_l, zq_m, zq_n, zq_o, zq_p, zq_q, zq_r, zq_s, zq_t, zq_u, zq_v, zq_w, zq_x, zq_y, zq_z, zq_A, zq_B, zq_C, zq_D, zq_E, zq_F, zq_G, zq_H, zq_I, zq_J, zq_K, zq_L, ↓zq_M, ↓zq_N, ↓zq_O, ↓zq_P, ↓zq_Q, ↓zq_R, zq_S, zq_T, zq_U, zq_V, zq_W, zq_X, zq_Y, zq_Z, zq_0, zq_1, zq_2, zq_3, zq_4, zq_5, ↓zq_6, ↓zq_7, ↓zq_8, ↓zq_9, ↓zq_aa, zq_ab, zq_ac, zq_ad, zq_ae, zq_af, zq_ag, ↓zq_ah, ↓zq_ai, ↓zq_aj, zq_ak, ↓zq_al, ↓zq_am, e_b1, e_b2, x_o1, x_o2, ip, i1, i2]
      · subst e
        have i2 := r_in0 (M := M) (x := v) (lo := 1) (hi := 40) (by omega)
        rw [r_ent (show e_rok 214 [192, p, 1, v] = true from decide_eq_true r_ref)]
        show e_tv E_C (E_V 214) e_t214_0 [192, p, 1, v, 0, 0] M = _
        unfold e_t214_0
        simp [zq_a, zq_b, zq_c, zq_d, zq_e, zq_f, zq_g, zq_h, zq_i, zq_j, zq_k, zq_l, zq_m, zq_n, zq_o, zq_p, zq_q, zq_r, zq_s, zq_t, zq_u, zq_v, zq_w, zq_x, zq_y, zq_z, zq_A, zq_B, zq_C, zq_D, zq_E, zq_F, zq_G, zq_H, zq_I, zq_J, zq_K, zq_L, ↓zq_M, ↓zq_N, ↓zq_O, ↓zq_P, ↓zq_Q, ↓zq_R, zq_S, zq_T, zq_U, zq_V, zq_W, zq_X, zq_Y, zq_Z, zq_0, zq_1, zq_2, zq_3, zq_4, zq_5, ↓zq_6, ↓zq_7, ↓zq_8, ↓zq_9, ↓zq_aa, zq_ab, zq_ac, zq_ad, zq_ae, zq_af, zq_ag, ↓zq_ah, ↓zq_ai, ↓zq_aj, zq_ak, ↓zq_al, ↓zq_am, e_b1, e_b2, x_o1, x_o2, ip, i1, i2]
    · have i1 := r_in0 (M := M) q1
      rw [r_ent (show e_rok 214 [192, p, w, v] = true from decide_eq_true r_ref)]
      show e_tv E_C (E_V 214) e_t214_0 [192, p, w, v, 0, 0] M = _
      unfold e_t214_0
      simp [zq_a, zq_b, zq_c, zq_d, zq_e, zq_f, zq_g, zq_h, zq_i, zq_j, zq_k, zq_l, zq_m, zq_n, zq_o, zq_p, zq_q, zq_r, zq_s, zq_t, zq_u, zq_v, zq_w, zq_x, zq_y, zq_z, zq_A, zq_B, zq_C, zq_D, zq_E, zq_F, zq_G, zq_H, zq_I, zq_J, zq_K, zq_L, ↓zq_M, ↓zq_N, ↓zq_O, ↓zq_P, ↓zq_Q, ↓zq_R, zq_S, zq_T, zq_U, zq_V, zq_W, zq_X, zq_Y, zq_Z, zq_0, zq_1, zq_2, zq_3, zq_4, zq_5, ↓zq_6, ↓zq_7, ↓zq_8, ↓zq_9, ↓zq_aa, zq_ab, zq_ac, zq_ad, zq_ae, zq_af, zq_ag, ↓zq_ah, ↓zq_ai, ↓zq_aj, zq_ak, ↓zq_al, ↓zq_am, e_b1, e_b2, x_o1, x_o2, ip, i1]
theorem ax_214b (ip : E_C 169 [192, p] M = some (1, M)) (h : ax_Bq w v) (kk : E_C 170 [192, p] M = some (r_G M (28 * p), M)) (k3 : r_G M (28 * p) ≠ 3) : E_C 214 [192, p, w, v] M = some (-3, M) := by
  rcases h with ⟨rfl, d0, d1⟩ | ⟨rfl, d0, d1⟩
  · have i1 := r_in1 (M := M) (x := 0) (lo := 0) (hi := 1) (by decide)
    have i2 := r_in1 (M := M) (x := v) (lo := 0) (hi := 500) ⟨d0, d1⟩
    rw [r_ent (show e_rok 214 [192, p, 0, v] = true from decide_eq_true r_ref)]
    show e_tv E_C (E_V 214) e_t214_0 [192, p, 0, v, 0, 0] M = _
    unfold e_t214_0
    simp [zq_a, zq_b, zq_c, zq_d, zq_e, zq_f, zq_g, zq_h, zq_i, zq_j, zq_k, zq_l, zq_m, zq_n, zq_o, zq_p, zq_q, zq_r, zq_s, zq_t, zq_u, zq_v, zq_w, zq_x, zq_y, zq_z, zq_A, zq_B, zq_C, zq_D, zq_E, zq_F, zq_G, zq_H, zq_I, zq_J, zq_K, zq_L, ↓zq_M, ↓zq_N, ↓zq_O, ↓zq_P, ↓zq_Q, ↓zq_R, zq_S, zq_T, zq_U, zq_V, zq_W, zq_X, zq_Y, zq_Z, zq_0, zq_1, zq_2, zq_3, zq_4, zq_5, ↓zq_6, ↓zq_7, ↓zq_8, ↓zq_9, ↓zq_aa, zq_ab, zq_ac, zq_ad, zq_ae, zq_af, zq_ag, ↓zq_ah, ↓zq_ai, ↓zq_aj, zq_ak, ↓zq_al, ↓zq_am, e_b1, e_b2, x_o1, x_o2, ip, i1, i2, kk, k3]
  · have i1 := r_in1 (M := M) (x := 1) (lo := 0) (hi := 1) (by decide)
    have i2 := r_in1 (M := M) (x := v) (lo := 1) (hi := 40) ⟨d0, d1⟩
    rw [r_ent (show e_rok 214 [192, p, 1, v] = true from decide_eq_true r_ref)]
    show e_tv E_C (E_V 214) e_t214_0 [192, p, 1, v, 0, 0] M = _
    unfold e_t214_0
    simp [zq_a, zq_b, zq_c, zq_d, zq_e, zq_f, zq_g, zq_h, zq_i, zq_j, zq_k, zq_l, zq_m, zq_n, zq_o, zq_p, zq_q, zq_r, zq_s, zq_t, zq_u, zq_v, zq_w, zq_x, zq_y, zq_z, zq_A, zq_B, zq_C, zq_D, zq_E, zq_F, zq_G, zq_H, zq_I, zq_J, zq_K, zq_L, ↓zq_M, ↓zq_N, ↓zq_O, ↓zq_P, ↓zq_Q, ↓zq_R, zq_S, zq_T, zq_U, zq_V, zq_W, zq_X, zq_Y, zq_Z, zq_0, zq_1, zq_2, zq_3, zq_4, zq_5, ↓zq_6, ↓zq_7, ↓zq_8, ↓zq_9, ↓zq_aa, zq_ab, zq_ac, zq_ad, zq_ae, zq_af, zq_ag, ↓zq_ah, ↓zq_ai, ↓zq_aj, zq_ak, ↓zq_al, ↓zq_am, e_b1, e_b2, x_o1, x_o2, ip, i1, i2, kk, k3]
theorem ax_214c (ip : E_C 169 [192, p] M = some (1, M)) (h : ax_Bq w v) (kk : E_C 170 [192, p] M = some (r_G M (28 * p), M)) (k3 : r_G M (28 * p) = 3) (hp : 0 ≤ p ∧ p < 40) : E_C 214 [192, p, w, v] M = some (r_G M (28 * p + 4 + w), e_up (e_up (e_up M 193 (28 * p + 4 + w).toNat v) 193 (28 * p + 4 + 2).toNat 1) 193 (28 * p + 4 + 3).toNat 0) := by
  have w1 : e_w (28 * p) = 28 * p := a_w_id (by omega) (by omega)
  have w2 : e_w (28 * p + 4) = 28 * p + 4 := a_w_id (by omega) (by omega)
  have w4 : e_w (28 * p + 4 + 2) = 28 * p + 4 + 2 := a_w_id (by omega) (by omega)
  have w5 : e_w (28 * p + 4 + 3) = 28 * p + 4 + 3 := a_w_id (by omega) (by omega)
  have st2 := fun M => r_stw (i := 28 * p + 4 + 2) (v := 1) (M := M) (by omega) (by omega)
  have st3 := fun M => r_stw (i := 28 * p + 4 + 3) (v := 0) (M := M) (by omega) (by omega)
  rcases h with ⟨rfl, d0, d1⟩ | ⟨rfl, d0, d1⟩
  · have i1 := r_in1 (M := M) (x := 0) (lo := 0) (hi := 1) (by decide)
    have i2 := r_in1 (M := M) (x := v) (lo := 0) (hi := 500) ⟨d0, d1⟩
    simp only [Int.add_zero]
    have l1 : e_op 60 [193, 28 * p + 4] M = some (r_G M (28 * p + 4)) := r_rd (by omega) (by omega)
    have st := fun M => r_stw (i := 28 * p + 4) (v := v) (M := M) (by omega) (by omega)
    rw [r_ent (show e_rok 214 [192, p, 0, v] = true from decide_eq_true r_ref)]
    show e_tv E_C (E_V 214) e_t214_0 [192, p, 0, v, 0, 0] M = _
    unfold e_t214_0
    simp [zq_a, zq_b, zq_c, zq_d, zq_e, zq_f, zq_g, zq_h, zq_i, zq_j, zq_k, zq_l, zq_m, zq_n, zq_o, zq_p, zq_q, zq_r, zq_s, zq_t, zq_u, zq_v, zq_w, zq_x, zq_y, zq_z, zq_A, zq_B, zq_C, zq_D, zq_E, zq_F, zq_G, zq_H, zq_I, zq_J, zq_K, zq_L, ↓zq_M, ↓zq_N, ↓zq_O, ↓zq_P, ↓zq_Q, ↓zq_R, zq_S, zq_T, zq_U, zq_V, zq_W, zq_X, zq_Y, zq_Z, zq_0, zq_1, zq_2, zq_3, zq_4, zq_5, ↓zq_6, ↓zq_7, ↓zq_8, ↓zq_9, ↓zq_aa, zq_ab, zq_ac, zq_ad, zq_ae, zq_af, zq_ag, ↓zq_ah, ↓zq_ai, ↓zq_aj, zq_ak, ↓zq_al, ↓zq_am, e_b1, e_b2, x_o1, x_o2, r_O0, ip, i1, i2, kk, k3, w1, w2, w4, w5, l1, st, st2, st3]
  · have i1 := r_in1 (M := M) (x := 1) (lo := 0) (hi := 1) (by decide)
    have i2 := r_in1 (M := M) (x := v) (lo := 1) (hi := 40) ⟨d0, d1⟩
    have w3 : e_w (28 * p + 4 + 1) = 28 * p + 4 + 1 := a_w_id (by omega) (by omega)
    have l1 : e_op 60 [193, 28 * p + 4 + 1] M = some (r_G M (28 * p + 4 + 1)) := r_rd (by omega) (by omega)
    have st := fun M => r_stw (i := 28 * p + 4 + 1) (v := v) (M := M) (by omega) (by omega)
    rw [r_ent (show e_rok 214 [192, p, 1, v] = true from decide_eq_true r_ref)]
    show e_tv E_C (E_V 214) e_t214_0 [192, p, 1, v, 0, 0] M = _
    unfold e_t214_0
    simp [zq_a, zq_b, zq_c, zq_d, zq_e, zq_f, zq_g, zq_h, zq_i, zq_j, zq_k, zq_l, zq_m, zq_n, zq_o, zq_p, zq_q, zq_r, zq_s, zq_t, zq_u, zq_v, zq_w, zq_x, zq_y, zq_z, zq_A, zq_B, zq_C, zq_D, zq_E, zq_F, zq_G, zq_H, zq_I, zq_J, zq_K, zq_L, ↓zq_M, ↓zq_N, ↓zq_O, ↓zq_P, ↓zq_Q, ↓zq_R, zq_S, zq_T, zq_U, zq_V, zq_W, zq_X, zq_Y, zq_Z, zq_0, zq_1, zq_2, zq_3, zq_4, zq_5, ↓zq_6, ↓zq_7, ↓zq_8, ↓zq_9, ↓zq_aa, zq_ab, zq_ac, zq_ad, zq_ae, zq_af, zq_ag, ↓zq_ah, ↓zq_ai, ↓zq_aj, zq_ak, ↓zq_al, ↓zq_am, e_b1, e_b2, x_o1, x_o2, r_O0, ip, i1, i2, kk, k3, w1, w2, w3, w4, w5, l1, st, st2, st3]
theorem ax_box (hB : h_B M 0 (r_G M)) (hD : hd_D M 0 (r_G M)) (J1 : r_J M1) (hfr : ∀ i, M1 193 i = M 193 i) (k1 : E_C 114 [8, p, w, v] M = some (r1, M1)) (k2 : E_C 214 [192, p, w, v] M1 = some (r2, M2)) : r1 = r2 ∧ hd_D M2 0 (r_G M2) := by
  have eG : r_G M1 = r_G M := funext fun i => hfr _
  have hW := (r_J_E J1).2.1
  have h10 : M 10 0 = r_G M 1198 := hB.1
  have i := h_149 (k := p) (M := M)
  rw [h10] at i
  have keep : r1 = -1 ∨ r1 = -3 → M1 = M → M2 = M1 → hd_D M2 0 (r_G M2) := fun _ e1 e2 => by rw [e2, e1]; exact hD
  by_cases c : 0 ≤ p ∧ p < r_G M 1198
  · rw [if_pos c] at i
    have c' : 0 ≤ p ∧ p < r_G M1 1198 := by rw [eG]; exact c
    have ip := r_ip1 hW c'
    have h40 := r_40 hW c'
    have kk : E_C 170 [192, p] M1 = some (r_G M1 (28 * p), M1) := r_kind h40
    by_cases b : ax_Bq w v
    · obtain ⟨q, rfl⟩ : ∃ q : Nat, p = q := ⟨p.toNat, by omega⟩
      have s := ax_155 (q := q) (M := M) (by omega)
      obtain ⟨q1, -⟩ := hB.2.2 q c.2
      have q1 : M 11 q = r_G M (28 * (q : Int)) := q1
      by_cases k3 : M 11 q = 3
      · rw [if_pos k3] at s
        obtain ⟨e1, e2⟩ := Prod.mk.inj (Option.some.inj (k1.symm.trans (ax_114c i b (by omega) s)))
        have k3' : r_G M1 (28 * (q : Int)) = 3 := by rw [eG, ← q1]; exact k3
        obtain ⟨f1, f2⟩ := Prod.mk.inj (Option.some.inj (k2.symm.trans (ax_214c ip b kk k3' h40)))
        obtain ⟨-, -, -, d3⟩ := hD q c.2
        obtain ⟨-, ⟨s0, s1, s2⟩, ⟨t0, t1, t2⟩, -, -⟩ := d3 (q1.symm.trans k3)
        have s0 : M (37 + q) 0 = r_G M (28 * (q : Int) + 4) := s0
        have t0 : M (37 + q) 1 = r_G M (28 * (q : Int) + 5) := t0
        have gx : ∀ x : Int, 0 ≤ x → r_G M2 x = if x = 28 * (q : Int) + 7 then 0 else if x = 28 * (q : Int) + 6 then 1 else if x = 28 * (q : Int) + 4 + w then v else r_G M x := fun x x0 => by
          have hw01 : w = 0 ∨ w = 1 := by rcases b with b | b; exact Or.inl b.1; exact Or.inr b.1
          rw [f2]
          show (e_up (e_up (e_up M1 193 _ v) 193 _ 1) 193 _ 0) 193 x.toNat = _
          by_cases e7 : x = 28 * (q : Int) + 7
          · rw [if_pos e7, show x.toNat = (28 * (q : Int) + 4 + 3).toNat by omega, c_up_s]
          · rw [if_neg e7, c_up_n (by omega)]
            by_cases e6 : x = 28 * (q : Int) + 6
            · rw [if_pos e6, show x.toNat = (28 * (q : Int) + 4 + 2).toNat by omega, c_up_s]
            · rw [if_neg e6, c_up_n (by omega)]
              by_cases e4 : x = 28 * (q : Int) + 4 + w
              · rw [if_pos e4, show x.toNat = (28 * (q : Int) + 4 + w).toNat by omega, c_up_s]
              · rw [if_neg e4, c_up_n (by omega)]
                exact hfr _
        have cx : ∀ id k, id < 192 → M2 id k = ax_b M (37 + q) (if w = 0 then v else M (37 + q) 0) (if w = 0 then M (37 + q) 1 else v) id k := fun id k hid => by
          rw [f2, c_up_n (by omega), c_up_n (by omega), c_up_n (by omega), e2]
        have B0 : ∀ a b, ax_b M (37 + q) a b (37 + q) 0 = a := fun a b => by unfold ax_b; rw [c_up_n (by omega), c_up_n (by omega), c_up_n (by omega), c_up_n (by omega), c_up_s]
        have B1 : ∀ a b, ax_b M (37 + q) a b (37 + q) 1 = b := fun a b => by unfold ax_b; rw [c_up_n (by omega), c_up_n (by omega), c_up_n (by omega), c_up_s]
        have B2 : ∀ a b, ax_b M (37 + q) a b (37 + q) 2 = 0 := fun a b => by unfold ax_b; rw [c_up_n (by omega), c_up_n (by omega), c_up_s]
        have B3 : ∀ a b, ax_b M (37 + q) a b (37 + q) 3 = 0 := fun a b => by unfold ax_b; rw [c_up_n (by omega), c_up_s]
        have Bn : ∀ a b id k, id ≠ 37 + q → ax_b M (37 + q) a b id k = M id k := fun a b id k h => by unfold ax_b; rw [c_up_n (by omega), c_up_n (by omega), c_up_n (by omega), c_up_n (by omega), c_up_n (by omega)]
        refine ⟨?_, hd_box hD (q1.symm.trans k3) c.2 hB.2.1.2 (fun x x0 hx => ?_) (fun id k hid hn => (cx _ _ (by omega)).trans (Bn _ _ _ _ hn)) ?_⟩
        · rw [e1, f1, eG]
          rcases b with ⟨rfl, -⟩ | ⟨rfl, -⟩
          · rw [Int.add_zero]
            exact s0
          · rw [show 28 * (q : Int) + 4 + 1 = 28 * (q : Int) + 5 by omega]
            exact t0
        · rw [gx x x0, if_neg (by omega), if_neg (by omega), if_neg (by rcases b with b | b <;> omega)]
        · have g4 := gx (28 * (q : Int) + 4) (by omega)
          have g5 := gx (28 * (q : Int) + 5) (by omega)
          have g6 := gx (28 * (q : Int) + 6) (by omega)
          have g7 := gx (28 * (q : Int) + 7) (by omega)
          rw [if_neg (by omega), if_neg (by omega)] at g4 g5
          rw [if_neg (by omega), if_pos rfl] at g6
          rw [if_pos rfl] at g7
          have m0 := (cx (37 + q) 0 (by omega)).trans (B0 _ _)
          have m1 := (cx (37 + q) 1 (by omega)).trans (B1 _ _)
          have m2 := (cx (37 + q) 2 (by omega)).trans (B2 _ _)
          have m3 := (cx (37 + q) 3 (by omega)).trans (B3 _ _)
          have z4 : M2 (37 + q) 0 = r_G M2 (28 * (q : Int) + 4) ∧ 0 ≤ r_G M2 (28 * (q : Int) + 4) ∧ r_G M2 (28 * (q : Int) + 4) ≤ 500 := by
            rcases b with ⟨rfl, b1, b2⟩ | ⟨rfl, b1, b2⟩
            · rw [if_pos (by omega)] at g4
              rw [if_pos rfl] at m0
              rw [m0, g4]
              exact ⟨rfl, b1, b2⟩
            · rw [if_neg (by omega)] at g4
              rw [if_neg (by decide)] at m0
              rw [m0, g4]
              exact ⟨s0, s1, s2⟩
          have z5 : M2 (37 + q) 1 = r_G M2 (28 * (q : Int) + 5) ∧ 1 ≤ r_G M2 (28 * (q : Int) + 5) ∧ r_G M2 (28 * (q : Int) + 5) ≤ 40 := by
            rcases b with ⟨rfl, b1, b2⟩ | ⟨rfl, b1, b2⟩
            · rw [if_neg (by omega)] at g5
              rw [if_pos rfl] at m1
              rw [m1, g5]
              exact ⟨t0, t1, t2⟩
            · rw [if_pos (by omega)] at g5
              rw [if_neg (by decide)] at m1
              rw [m1, g5]
              exact ⟨rfl, b1, b2⟩
          exact ⟨z4, z5, Or.inl ⟨m2, g6⟩, Or.inl ⟨m3, g7⟩⟩
      · rw [if_neg k3] at s
        obtain ⟨e1, e2⟩ := Prod.mk.inj (Option.some.inj (k1.symm.trans (ax_114b i b s)))
        have k3' : r_G M1 (28 * (q : Int)) ≠ 3 := by rw [eG, ← q1]; exact k3
        obtain ⟨f1, f2⟩ := Prod.mk.inj (Option.some.inj (k2.symm.trans (ax_214b ip b kk k3')))
        exact ⟨e1.trans f1.symm, keep (Or.inr e1) e2 f2⟩
    · obtain ⟨e1, e2⟩ := Prod.mk.inj (Option.some.inj (k1.symm.trans (ax_114a i (Or.inr ⟨rfl, b⟩))))
      obtain ⟨f1, f2⟩ := Prod.mk.inj (Option.some.inj (k2.symm.trans (ax_214a ip (Or.inr ⟨rfl, b⟩))))
      exact ⟨e1.trans f1.symm, keep (Or.inl e1) e2 f2⟩
  · rw [if_neg c] at i
    have ip := r_ip0 hW (show ¬ (0 ≤ p ∧ p < r_G M1 1198) by rw [eG]; exact c)
    obtain ⟨e1, e2⟩ := Prod.mk.inj (Option.some.inj (k1.symm.trans (ax_114a i (Or.inl rfl))))
    obtain ⟨f1, f2⟩ := Prod.mk.inj (Option.some.inj (k2.symm.trans (ax_214a ip (Or.inl rfl))))
    exact ⟨e1.trans f1.symm, keep (Or.inl e1) e2 f2⟩
end AXX
end
section
/-! seek: the two answers -/
def sk_n (u r b : Int) : Int := if r = 0 then u + b else u - b
def sk_u (u r b : Int) : Int := if sk_n u r b < 0 then 0 else if 500 < sk_n u r b then 500 else sk_n u r b
def sk_t (u r b : Int) : Int := if sk_n u r b < 0 ∨ 500 < sk_n u r b then 1 - r else r
def sk_z (P : Int → Int) (u r st l : Int) : Int := if st = 1 ∧ P u < l then 1 - r else r
def sk_s (P : Int → Int) (b : Int) (z : Int × Int × Int × Int) : Int × Int × Int × Int := (sk_u z.1 (sk_z P z.1 z.2.1 z.2.2.1 z.2.2.2) b, sk_t z.1 (sk_z P z.1 z.2.1 z.2.2.1 z.2.2.2) b, 1, P z.1)
def sk_i (P : Int → Int) (b : Int) : Nat → Int × Int × Int × Int → Int × Int × Int × Int
  | 0, z => z
  | d + 1, z => sk_i P b d (sk_s P b z)
def sk_ok (z : Int × Int × Int × Int) : Prop := (0 ≤ z.1 ∧ z.1 ≤ 500) ∧ (z.2.1 = 0 ∨ z.2.1 = 1) ∧ (z.2.2.1 = 0 ∨ z.2.2.1 = 1)
def sk_C (M : EM) (s : Nat) (b : Int) (z : Int × Int × Int × Int) : Prop := M s 0 = z.1 ∧ M s 1 = b ∧ M s 2 = z.2.1 ∧ M s 3 = z.2.2.1 ∧ (z.2.2.1 = 1 → M s 4 = z.2.2.2)
def sk_R (M : EM) (z : Int × Int × Int × Int) : Prop := M 192 27 = z.1 ∧ M 192 28 = (if z.2.1 = 0 then 1 else -1) ∧ M 192 30 = z.2.2.1 ∧ (z.2.2.1 = 1 → M 192 29 = z.2.2.2)
theorem sk_z01 {P : Int → Int} {u r st l : Int} (h : r = 0 ∨ r = 1) : sk_z P u r st l = 0 ∨ sk_z P u r st l = 1 := by
  unfold sk_z
  by_cases c : st = 1 ∧ P u < l
  · rw [if_pos c]; omega
  · rw [if_neg c]; exact h
theorem sk_ut {u r b : Int} (h : r = 0 ∨ r = 1) : (0 ≤ sk_u u r b ∧ sk_u u r b ≤ 500) ∧ (sk_t u r b = 0 ∨ sk_t u r b = 1) := by
  unfold sk_u sk_t
  generalize sk_n u r b = n
  rcases Int.lt_or_le n 0 with c | c
  · rw [if_pos c, if_pos (Or.inl c)]
    exact ⟨by decide, by omega⟩
  · rcases Int.lt_or_le 500 n with d | d
    · rw [if_neg (by omega), if_pos d, if_pos (Or.inr d)]
      exact ⟨by decide, by omega⟩
    · rw [if_neg (by omega), if_neg (by omega), if_neg (by omega)]
      exact ⟨⟨c, d⟩, h⟩
theorem sk_ok_s {P : Int → Int} {b : Int} {z : Int × Int × Int × Int} (h : sk_ok z) : sk_ok (sk_s P b z) := by
  obtain ⟨h1, h2⟩ := sk_ut (u := z.1) (b := b) (sk_z01 (P := P) (u := z.1) (st := z.2.2.1) (l := z.2.2.2) h.2.1)
  exact ⟨h1, h2, Or.inr rfl⟩
theorem sk_ok_i {P : Int → Int} {b : Int} : ∀ (d : Nat) (z : Int × Int × Int × Int), sk_ok z → sk_ok (sk_i P b d z)
  | 0, _, h => h
  | d + 1, _, h => sk_ok_i d _ (sk_ok_s h)
theorem sk_st_i {P : Int → Int} {b : Int} : ∀ (d : Nat) (z : Int × Int × Int × Int), (sk_i P b (d + 1) z).2.2.1 = 1
  | 0, _ => rfl
  | d + 1, z => sk_st_i d (sk_s P b z)
theorem sk_l_i {P : Int → Int} {b : Int} : ∀ (d : Nat) (z : Int × Int × Int × Int), sk_ok z → ∃ u, (0 ≤ u ∧ u ≤ 500) ∧ (sk_i P b (d + 1) z).2.2.2 = P u
  | 0, z, h => ⟨z.1, h.1, rfl⟩
  | d + 1, z, h => sk_l_i d (sk_s P b z) (sk_ok_s h)
theorem ax_ff {M : EM} {s k j : Nat} {v : Int} (h : j ≠ k) : (e_up M s k v) s j = M s j := c_up_n (fun hc => h hc.2)
section AXK
variable {M M1 M2 : EM} {p n r1 r2 b : Int} {s : Nat} {P : Int → Int}
/-- the class: one step's move -/
theorem ax_82e (is : e_isO 7 (s : Int)) {u r v : Int} {M : EM} (h0 : M s 0 = u) (h1 : M s 1 = b) (h2 : M s 2 = r) (hr : r = 0 ∨ r = 1) (hu : 0 ≤ u ∧ u ≤ 500) (hb : 1 ≤ b ∧ b ≤ 40) : ∃ M', E_V 82 31 [(s : Int), v] M = some (0, M') ∧ M' s 0 = sk_u u r b ∧ M' s 1 = b ∧ M' s 2 = sk_t u r b ∧ M' s 3 = 1 ∧ M' s 4 = v ∧ ∀ id k, id ≠ s → M' id k = M id k := by
  have g0 : ∀ M, e_gf 448 [(s : Int)] M = some (M s 0) := fun M => c_gf is (by decide +kernel)
  have g1 : ∀ M, e_gf 449 [(s : Int)] M = some (M s 1) := fun M => c_gf is (by decide +kernel)
  have g2 : ∀ M, e_gf 450 [(s : Int)] M = some (M s 2) := fun M => c_gf is (by decide +kernel)
  have p0 : ∀ v M, e_pf 448 [(s : Int), v] M = some (e_up M s 0 v) := fun v M => c_pf is (by decide +kernel)
  have p2 : ∀ v M, e_pf 450 [(s : Int), v] M = some (e_up M s 2 v) := fun v M => c_pf is (by decide +kernel)
  have p3 : ∀ v M, e_pf 451 [(s : Int), v] M = some (e_up M s 3 v) := fun v M => c_pf is (by decide +kernel)
  have p4 : ∀ v M, e_pf 452 [(s : Int), v] M = some (e_up M s 4 v) := fun v M => c_pf is (by decide +kernel)
  have f133 : ∀ M, E_V 82 133 [(s : Int), v] M = some (0, M) := fun M => by
    rw [E_V_eq]
    show e_tv E_C (E_V 82) e_t82_133 [(s : Int), v] M = _
    unfold e_t82_133
    simp [zq_a, zq_b, zq_c, zq_d, zq_e, zq_f, zq_g, zq_h, zq_i, zq_j, zq_k, zq_l, zq_m, zq_n, zq_o, zq_p, zq_q, zq_r, zq_s, zq_t, zq_u, zq_v, zq_w, zq_x, zq_y, zq_z, zq_A, zq_B, zq_C, zq_D, zq_E, zq_F, zq_G, zq_H, zq_I, zq_J, zq_K, zq_L, ↓zq_M, ↓zq_N, ↓zq_O, ↓zq_P, ↓zq_Q, ↓zq_R, zq_S, zq_T, zq_U, zq_V, zq_W, zq_X, zq_Y, zq_Z, zq_0, zq_1, zq_2, zq_3, zq_4, zq_5, ↓zq_6, ↓zq_7, ↓zq_8, ↓zq_9, ↓zq_aa, zq_ab, zq_ac, zq_ad, zq_ae, zq_af, zq_ag, ↓zq_ah, ↓zq_ai, ↓zq_aj, zq_ak, ↓zq_al, ↓zq_am, e_b1, e_b2, x_o1, x_o2]
  have wb : e_w (-b) = -b := a_w_id (by omega) (by omega)
  obtain ⟨n, hn⟩ : ∃ n, sk_n u r b = n := ⟨_, rfl⟩
  have hn' : (r = 0 ∧ u + b = n) ∨ (r = 1 ∧ u + -b = n) := by
    unfold sk_n at hn
    rcases hr with rfl | rfl
    · exact Or.inl ⟨rfl, hn⟩
    · exact Or.inr ⟨rfl, hn⟩
  have sp : E_V 82 31 [(s : Int), v] M = (if n < 0 then some (0, e_up (e_up (e_up (e_up (e_up M s 3 1) s 4 v) s 0 n) s 0 0) s 2 (1 - r)) else if 500 < n then some (0, e_up (e_up (e_up (e_up (e_up M s 3 1) s 4 v) s 0 n) s 0 500) s 2 (1 - r)) else some (0, e_up (e_up (e_up M s 3 1) s 4 v) s 0 n)) := by
    have w : e_w n = n := a_w_id (by omega) (by omega)
    rcases hn' with ⟨rfl, e⟩ | ⟨rfl, e⟩
    · have w' : e_w (u + b) = n := by rw [e, w]
      rcases Int.lt_or_le n 0 with c | c
      · have := hu.1
        omega
      · have c0 : ¬ n < 0 := by omega
        rcases Int.lt_or_le 500 n with d | d
        · have d0 : ¬ n ≤ 500 := by omega
          rw [E_V_eq]
          show e_tv E_C (E_V 82) e_t82_31 [(s : Int), v] M = _
          unfold e_t82_31
          simp [zq_a, zq_b, zq_c, zq_d, zq_e, zq_f, zq_g, zq_h, zq_i, zq_j, zq_k, zq_l, zq_m, zq_n, zq_o, zq_p, zq_q, zq_r, zq_s, zq_t, zq_u, zq_v, zq_w, zq_x, zq_y, zq_z, zq_A, zq_B, zq_C, zq_D, zq_E, zq_F, zq_G, zq_H, zq_I, zq_J, zq_K, zq_L, ↓zq_M, ↓zq_N, ↓zq_O, ↓zq_P, ↓zq_Q, ↓zq_R, zq_S, zq_T, zq_U, zq_V, zq_W, zq_X, zq_Y, zq_Z, zq_0, zq_1, zq_2, zq_3, zq_4, zq_5, ↓zq_6, ↓zq_7, ↓zq_8, ↓zq_9, ↓zq_aa, zq_ab, zq_ac, zq_ad, zq_ae, zq_af, zq_ag, ↓zq_ah, ↓zq_ai, ↓zq_aj, zq_ak, ↓zq_al, ↓zq_am, e_b1, e_b2, x_o1, x_o2, g0, g1, g2, p0, p2, p3, p4, f133, ax_ff, c_up_s, h0, h1, h2, w', c, c0, d, d0]
        · have d0 : ¬ 500 < n := by omega
          rw [E_V_eq]
          show e_tv E_C (E_V 82) e_t82_31 [(s : Int), v] M = _
          unfold e_t82_31
          simp [zq_a, zq_b, zq_c, zq_d, zq_e, zq_f, zq_g, zq_h, zq_i, zq_j, zq_k, zq_l, zq_m, zq_n, zq_o, zq_p, zq_q, zq_r, zq_s, zq_t, zq_u, zq_v, zq_w, zq_x, zq_y, zq_z, zq_A, zq_B, zq_C, zq_D, zq_E, zq_F, zq_G, zq_H, zq_I, zq_J, zq_K, zq_L, ↓zq_M, ↓zq_N, ↓zq_O, ↓zq_P, ↓zq_Q, ↓zq_R, zq_S, zq_T, zq_U, zq_V, zq_W, zq_X, zq_Y, zq_Z, zq_0, zq_1, zq_2, zq_3, zq_4, zq_5, ↓zq_6, ↓zq_7, ↓zq_8, ↓zq_9, ↓zq_aa, zq_ab, zq_ac, zq_ad, zq_ae, zq_af, zq_ag, ↓zq_ah, ↓zq_ai, ↓zq_aj, zq_ak, ↓zq_al, ↓zq_am, e_b1, e_b2, x_o1, x_o2, g0, g1, g2, p0, p2, p3, p4, f133, ax_ff, c_up_s, h0, h1, h2, w', c, c0, d, d0]
    · have w' : e_w (u + -b) = n := by rw [e, w]
      rcases Int.lt_or_le n 0 with c | c
      · have c0 : ¬ 0 ≤ n := by omega
        rw [E_V_eq]
        show e_tv E_C (E_V 82) e_t82_31 [(s : Int), v] M = _
        unfold e_t82_31
        simp [zq_a, zq_b, zq_c, zq_d, zq_e, zq_f, zq_g, zq_h, zq_i, zq_j, zq_k, zq_l, zq_m, zq_n, zq_o, zq_p, zq_q, zq_r, zq_s, zq_t, zq_u, zq_v, zq_w, zq_x, zq_y, zq_z, zq_A, zq_B, zq_C, zq_D, zq_E, zq_F, zq_G, zq_H, zq_I, zq_J, zq_K, zq_L, ↓zq_M, ↓zq_N, ↓zq_O, ↓zq_P, ↓zq_Q, ↓zq_R, zq_S, zq_T, zq_U, zq_V, zq_W, zq_X, zq_Y, zq_Z, zq_0, zq_1, zq_2, zq_3, zq_4, zq_5, ↓zq_6, ↓zq_7, ↓zq_8, ↓zq_9, ↓zq_aa, zq_ab, zq_ac, zq_ad, zq_ae, zq_af, zq_ag, ↓zq_ah, ↓zq_ai, ↓zq_aj, zq_ak, ↓zq_al, ↓zq_am, e_b1, e_b2, x_o1, x_o2, g0, g1, g2, p0, p2, p3, p4, f133, ax_ff, c_up_s, h0, h1, h2, wb, w', c, c0]
      · have c0 : ¬ n < 0 := by omega
        have d : n ≤ 500 := by omega
        have d0 : ¬ 500 < n := by omega
        rw [E_V_eq]
        show e_tv E_C (E_V 82) e_t82_31 [(s : Int), v] M = _
        unfold e_t82_31
        simp [zq_a, zq_b, zq_c, zq_d, zq_e, zq_f, zq_g, zq_h, zq_i, zq_j, zq_k, zq_l, zq_m, zq_n, zq_o, zq_p, zq_q, zq_r, zq_s, zq_t, zq_u, zq_v, zq_w, zq_x, zq_y, zq_z, zq_A, zq_B, zq_C, zq_D, zq_E, zq_F, zq_G, zq_H, zq_I, zq_J, zq_K, zq_L, ↓zq_M, ↓zq_N, ↓zq_O, ↓zq_P, ↓zq_Q, ↓zq_R, zq_S, zq_T, zq_U, zq_V, zq_W, zq_X, zq_Y, zq_Z, zq_0, zq_1, zq_2, zq_3, zq_4, zq_5, ↓zq_6, ↓zq_7, ↓zq_8, ↓zq_9, ↓zq_aa, zq_ab, zq_ac, zq_ad, zq_ae, zq_af, zq_ag, ↓zq_ah, ↓zq_ai, ↓zq_aj, zq_ak, ↓zq_al, ↓zq_am, e_b1, e_b2, x_o1, x_o2, g0, g1, g2, p0, p2, p3, p4, f133, ax_ff, c_up_s, h0, h1, h2, wb, w', c, c0, d, d0]
  rw [sp]
  unfold sk_u sk_t
  rw [hn]
  rcases Int.lt_or_le n 0 with c | c
  · rw [if_pos c, if_pos c, if_pos (Or.inl c)]
    exact ⟨_, rfl, by simp [c_up_s, ax_ff], by simp [c_up_s, ax_ff, h1], by simp [c_up_s, ax_ff], by simp [c_up_s, ax_ff], by simp [c_up_s, ax_ff], fun id k h => by rw [c_up_n (by omega), c_up_n (by omega), c_up_n (by omega), c_up_n (by omega), c_up_n (by omega)]⟩
  · rcases Int.lt_or_le 500 n with d | d
    · rw [if_neg (by omega), if_pos d, if_neg (by omega), if_pos d, if_pos (Or.inr d)]
      exact ⟨_, rfl, by simp [c_up_s, ax_ff], by simp [c_up_s, ax_ff, h1], by simp [c_up_s, ax_ff], by simp [c_up_s, ax_ff], by simp [c_up_s, ax_ff], fun id k h => by rw [c_up_n (by omega), c_up_n (by omega), c_up_n (by omega), c_up_n (by omega), c_up_n (by omega)]⟩
    · rw [if_neg (by omega), if_neg (by omega), if_neg (by omega), if_neg (by omega), if_neg (by omega)]
      exact ⟨_, rfl, by simp [c_up_s, ax_ff], by simp [c_up_s, ax_ff, h1], by simp [c_up_s, ax_ff, h2], by simp [c_up_s, ax_ff], by simp [c_up_s, ax_ff], fun id k h => by rw [c_up_n (by omega), c_up_n (by omega), c_up_n (by omega)]⟩
theorem ax_82 (is : e_isO 7 (s : Int)) {z : Int × Int × Int × Int} {M : EM} (hz : sk_ok z) (hb : 1 ≤ b ∧ b ≤ 40) (hC : sk_C M s b z) : ∃ M', E_C 82 [(s : Int), P z.1] M = some (0, M') ∧ sk_C M' s b (sk_s P b z) ∧ ∀ id k, id ≠ s → M' id k = M id k := by
  obtain ⟨hu, hr, hst⟩ := hz
  obtain ⟨h0, h1, h2, h3, h4⟩ := hC
  have g2 : ∀ M, e_gf 450 [(s : Int)] M = some (M s 2) := fun M => c_gf is (by decide +kernel)
  have g3 : ∀ M, e_gf 451 [(s : Int)] M = some (M s 3) := fun M => c_gf is (by decide +kernel)
  have g4 : ∀ M, e_gf 452 [(s : Int)] M = some (M s 4) := fun M => c_gf is (by decide +kernel)
  have p2 : ∀ v M, e_pf 450 [(s : Int), v] M = some (e_up M s 2 v) := fun v M => c_pf is (by decide +kernel)
  unfold sk_s
  obtain ⟨u, r, st, l⟩ := z
  dsimp only at *
  generalize hv : P u = v
  have s0 : E_C 82 [(s : Int), v] M = e_tv E_C (E_V 82) e_t82_0 [(s : Int), v] M := r_ent (show e_rok 82 [(s : Int), v] = true from decide_eq_true is)
  rw [s0]
  unfold e_t82_0
  by_cases c : st = 1 ∧ v < l
  · have ez : sk_z P u r st l = 1 - r := by
      unfold sk_z
      rw [hv]
      exact if_pos c
    rw [ez]
    obtain ⟨c1, c2⟩ := c
    subst c1
    have h4' := h4 rfl
    obtain ⟨M', k, a0, a1, a2, a3, a4, a5⟩ := ax_82e (b := b) (v := v) (M := e_up M s 2 (1 - r)) is ((ax_ff (by decide)).trans h0) ((ax_ff (by decide)).trans h1) c_up_s (by omega) hu hb
    refine ⟨M', ?_, ⟨a0, a1, a2, a3, fun _ => a4⟩, fun id k h => (a5 id k h).trans (c_up_n (by omega))⟩
    rcases hr with rfl | rfl
    · have k' : E_V 82 31 [(s : Int), v] (e_up M s 2 1) = some (0, M') := k
      simp [zq_a, zq_b, zq_c, zq_d, zq_e, zq_f, zq_g, zq_h, zq_i, zq_j, zq_k, zq_l, zq_m, zq_n, zq_o, zq_p, zq_q, zq_r, zq_s, zq_t, zq_u, zq_v, zq_w, zq_x, zq_y, zq_z, zq_A, zq_B, zq_C, zq_D, zq_E, zq_F, zq_G, zq_H, zq_I, zq_J, zq_K, zq_L, ↓zq_M, ↓zq_N, ↓zq_O, ↓zq_P, ↓zq_Q, ↓zq_R, zq_S, zq_T, zq_U, zq_V, zq_W, zq_X, zq_Y, zq_Z, zq_0, zq_1, zq_2, zq_3, zq_4, zq_5, ↓zq_6, ↓zq_7, ↓zq_8, ↓zq_9, ↓zq_aa, zq_ab, zq_ac, zq_ad, zq_ae, zq_af, zq_ag, ↓zq_ah, ↓zq_ai, ↓zq_aj, zq_ak, ↓zq_al, ↓zq_am, e_b1, e_b2, x_o1, x_o2, g2, g3, g4, p2, h3, h4', c2, h2, k']
    · have k' : E_V 82 31 [(s : Int), v] (e_up M s 2 0) = some (0, M') := k
      simp [zq_a, zq_b, zq_c, zq_d, zq_e, zq_f, zq_g, zq_h, zq_i, zq_j, zq_k, zq_l, zq_m, zq_n, zq_o, zq_p, zq_q, zq_r, zq_s, zq_t, zq_u, zq_v, zq_w, zq_x, zq_y, zq_z, zq_A, zq_B, zq_C, zq_D, zq_E, zq_F, zq_G, zq_H, zq_I, zq_J, zq_K, zq_L, ↓zq_M, ↓zq_N, ↓zq_O, ↓zq_P, ↓zq_Q, ↓zq_R, zq_S, zq_T, zq_U, zq_V, zq_W, zq_X, zq_Y, zq_Z, zq_0, zq_1, zq_2, zq_3, zq_4, zq_5, ↓zq_6, ↓zq_7, ↓zq_8, ↓zq_9, ↓zq_aa, zq_ab, zq_ac, zq_ad, zq_ae, zq_af, zq_ag, ↓zq_ah, ↓zq_ai, ↓zq_aj, zq_ak, ↓zq_al, ↓zq_am, e_b1, e_b2, x_o1, x_o2, g2, g3, g4, p2, h3, h4', c2, h2, k']
  · have ez : sk_z P u r st l = r := by
      unfold sk_z
      rw [hv]
      exact if_neg c
    rw [ez]
    obtain ⟨M', k, a0, a1, a2, a3, a4, a5⟩ := ax_82e (v := v) is h0 h1 h2 hr hu hb
    refine ⟨M', ?_, ⟨a0, a1, a2, a3, fun _ => a4⟩, a5⟩
    rcases hst with rfl | rfl
    · simp [zq_a, zq_b, zq_c, zq_d, zq_e, zq_f, zq_g, zq_h, zq_i, zq_j, zq_k, zq_l, zq_m, zq_n, zq_o, zq_p, zq_q, zq_r, zq_s, zq_t, zq_u, zq_v, zq_w, zq_x, zq_y, zq_z, zq_A, zq_B, zq_C, zq_D, zq_E, zq_F, zq_G, zq_H, zq_I, zq_J, zq_K, zq_L, ↓zq_M, ↓zq_N, ↓zq_O, ↓zq_P, ↓zq_Q, ↓zq_R, zq_S, zq_T, zq_U, zq_V, zq_W, zq_X, zq_Y, zq_Z, zq_0, zq_1, zq_2, zq_3, zq_4, zq_5, ↓zq_6, ↓zq_7, ↓zq_8, ↓zq_9, ↓zq_aa, zq_ab, zq_ac, zq_ad, zq_ae, zq_af, zq_ag, ↓zq_ah, ↓zq_ai, ↓zq_aj, zq_ak, ↓zq_al, ↓zq_am, e_b1, e_b2, x_o1, x_o2, g3, h3, k]
    · have h4' := h4 rfl
      have c2 : ¬ v < l := fun e => c ⟨rfl, e⟩
      have c3 : l ≤ v := by omega
      simp [zq_a, zq_b, zq_c, zq_d, zq_e, zq_f, zq_g, zq_h, zq_i, zq_j, zq_k, zq_l, zq_m, zq_n, zq_o, zq_p, zq_q, zq_r, zq_s, zq_t, zq_u, zq_v, zq_w, zq_x, zq_y, zq_z, zq_A, zq_B, zq_C, zq_D, zq_E, zq_F, zq_G, zq_H, zq_I, zq_J, zq_K, zq_L, ↓zq_M, ↓zq_N, ↓zq_O, ↓zq_P, ↓zq_Q, ↓zq_R, zq_S, zq_T, zq_U, zq_V, zq_W, zq_X, zq_Y, zq_Z, zq_0, zq_1, zq_2, zq_3, zq_4, zq_5, ↓zq_6, ↓zq_7, ↓zq_8, ↓zq_9, ↓zq_aa, zq_ab, zq_ac, zq_ad, zq_ae, zq_af, zq_ag, ↓zq_ah, ↓zq_ai, ↓zq_aj, zq_ak, ↓zq_al, ↓zq_am, e_b1, e_b2, x_o1, x_o2, g3, g4, h3, h4', c2, c3, k]
/-- the class: steps -/
theorem ax_52 (hs : 37 ≤ s ∧ s < 77) {S : Int → Int} (hb : 1 ≤ b ∧ b ≤ 40) (hS : ∀ u, 0 ≤ u ∧ u ≤ 500 → 0 ≤ S u ∧ S u ≤ 1000) (hn : n ≤ 100) : ∀ (d : Nat) (x4 : Int) (z : Int × Int × Int × Int) (M : EM), sk_ok z → sk_C M s b z → M 170 6 = 0 → (∀ u : Nat, u ≤ 500 → M 181 u = S (u : Int)) → n - x4 = d → 0 ≤ x4 → ∃ M', E_V 115 52 [8, p, n, (s : Int), x4] M = some ((sk_i (fun u => u * S u) b d z).1, M') ∧ sk_C M' s b (sk_i (fun u => u * S u) b d z) ∧ ∀ id k, id ≠ s → M' id k = M id k := by
  have is : e_isO 7 (s : Int) := p_is7 (by omega)
  have g0 : ∀ M, e_gf 448 [(s : Int)] M = some (M s 0) := fun M => c_gf is (by decide +kernel)
  intro d
  induction d with
  | zero =>
    intro x4 z M hz hC h6 h181 hd h0
    refine ⟨M, ?_, hC, fun _ _ _ => rfl⟩
    show _ = some (z.1, M)
    have q : ¬ x4 < n := by omega
    obtain ⟨c0, -⟩ := hC
    clear h181 hS
    generalize z.1 = zz at *
    rw [E_V_eq]
    show e_tv E_C (E_V 115) e_t115_52 [8, p, n, (s : Int), x4] M = _
    unfold e_t115_52
    simp [zq_a, zq_b, zq_c, zq_d, zq_e, zq_f, zq_g, zq_h, zq_i, zq_j, zq_k, zq_l, zq_m, zq_n, zq_o, zq_p, zq_q, zq_r, zq_s, zq_t, zq_u, zq_v, zq_w, zq_x, zq_y, zq_z, zq_A, zq_B, zq_C, zq_D, zq_E, zq_F, zq_G, zq_H, zq_I, zq_J, zq_K, zq_L, ↓zq_M, ↓zq_N, ↓zq_O, ↓zq_P, ↓zq_Q, ↓zq_R, zq_S, zq_T, zq_U, zq_V, zq_W, zq_X, zq_Y, zq_Z, zq_0, zq_1, zq_2, zq_3, zq_4, zq_5, ↓zq_6, ↓zq_7, ↓zq_8, ↓zq_9, ↓zq_aa, zq_ab, zq_ac, zq_ad, zq_ae, zq_af, zq_ag, ↓zq_ah, ↓zq_ai, ↓zq_aj, zq_ak, ↓zq_al, ↓zq_am, e_b1, e_b2, x_o1, x_o2, g0, c0, q]
  | succ d ih =>
    intro x4 z M hz hC h6 h181 hd h0
    have q : x4 < n := by omega
    have w : e_w (x4 + 1) = x4 + 1 := a_w_id (by omega) (by omega)
    obtain ⟨M1, k1, t1, t2⟩ := ax_82 (P := fun u => u * S u) is hz hb hC
    obtain ⟨M', k, m1, m2⟩ := ih (x4 + 1) (sk_s (fun u => u * S u) b z) M1 (sk_ok_s hz) t1 ((t2 _ _ (by omega)).trans h6) (fun u hu => (t2 _ _ (by omega)).trans (h181 u hu)) (by omega) (by omega)
    refine ⟨M', ?_, m1, fun id k h => (m2 id k h).trans (t2 id k h)⟩
    show _ = some ((sk_i (fun u => u * S u) b d (sk_s (fun u => u * S u) b z)).1, M')
    rw [← k]
    obtain ⟨uu, huu⟩ : ∃ uu : Nat, z.1 = uu := ⟨z.1.toNat, by have := hz.1; omega⟩
    have hz1 := hz.1
    have e181 : M 181 uu = S z.1 := by rw [h181 uu (by omega), huu]
    have sb := hS z.1 hz1
    have pw := bx_20 (u := z.1) (k := uu) h6 huu (by omega) (by rw [e181]; exact sb)
    rw [e181] at pw
    obtain ⟨c0, -⟩ := hC
    have k1 : E_C 82 [(s : Int), z.1 * S z.1] M = some (0, M1) := k1
    clear h181 hS ih k m1 m2 e181 huu
    generalize S z.1 = ss at *
    generalize z.1 = zz at *
    rw [E_V_eq]
    show e_tv E_C (E_V 115) e_t115_52 [8, p, n, (s : Int), x4] M = _
    unfold e_t115_52
    simp [zq_a, zq_b, zq_c, zq_d, zq_e, zq_f, zq_g, zq_h, zq_i, zq_j, zq_k, zq_l, zq_m, zq_n, zq_o, zq_p, zq_q, zq_r, zq_s, zq_t, zq_u, zq_v, zq_w, zq_x, zq_y, zq_z, zq_A, zq_B, zq_C, zq_D, zq_E, zq_F, zq_G, zq_H, zq_I, zq_J, zq_K, zq_L, ↓zq_M, ↓zq_N, ↓zq_O, ↓zq_P, ↓zq_Q, ↓zq_R, zq_S, zq_T, zq_U, zq_V, zq_W, zq_X, zq_Y, zq_Z, zq_0, zq_1, zq_2, zq_3, zq_4, zq_5, ↓zq_6, ↓zq_7, ↓zq_8, ↓zq_9, ↓zq_aa, zq_ab, zq_ac, zq_ad, zq_ae, zq_af, zq_ag, ↓zq_ah, ↓zq_ai, ↓zq_aj, zq_ak, ↓zq_al, ↓zq_am, e_b1, e_b2, x_o1, x_o2, ax_bench, g0, c0, q, w, pw, k1]
end AXK
end
