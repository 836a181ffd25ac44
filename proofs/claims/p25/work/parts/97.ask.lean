/-! what holds between two calls, and what only asks -/
def r_Gi (M : EM) (i : Int) : Int := M 194 i.toNat
def r_J (M : EM) : Prop := a_M M ∧ r_I M ∧ r_W (r_G M) ∧ (M 192 9 ≠ 0 → r_W (r_Gi M)) ∧ M 192 20 = -1
/-- what asking writes -/
def r_wq : AW := [(192, 10, 35), (202, 0, 47), (203, 0, 47), (205, 0, 999), (206, 0, 99), (207, 0, 1023), (208, 0, 1023), (209, 0, 799), (210, 0, 402), (211, 0, 402), (212, 0, 11736)]
def r_Q (u : Nat) (as : List Int) (M : EM) : Prop := ∃ r M', E_C u as M = some (r, M') ∧ a_M M' ∧ a_fr r_wq M M' ∧ M' 192 20 = -1
theorem r_J_E {M : EM} (h : r_J M) : r_E M := ⟨h.1, h.2.2.1, by rw [h.2.2.2.2]; decide, by rw [h.2.2.2.2]; decide⟩
theorem r_wq_out {M M' : EM} (h : a_fr r_wq M M') {id k : Nat} (hi : id < 192 ∨ id = 192 ∧ (k < 10 ∨ 35 < k) ∨ 193 ≤ id ∧ id ≤ 201 ∨ id = 204 ∨ 212 < id) : M' id k = M id k := h id k (fun w hw => by
  have key : ∀ w ∈ r_wq, (w.1 = 192 ∧ w.2.1 = 10 ∧ w.2.2 = 35) ∨ w.1 = 202 ∨ w.1 = 203 ∨ (205 ≤ w.1 ∧ w.1 ≤ 212) := by decide
  have := key w hw
  omega)
theorem r_J_q {M M' : EM} (h : r_J M) (hM : a_M M') (hf : a_fr r_wq M M') (h20 : M' 192 20 = -1) : r_J M' := by
  obtain ⟨j1, j2, j3, j4, j5⟩ := h
  have e1 : r_G M' = r_G M := funext fun i => r_wq_out hf (by omega)
  have e2 : r_Gi M' = r_Gi M := funext fun i => r_wq_out hf (by omega)
  refine ⟨hM, fun j hj => ?_, by rw [e1]; exact j3, ?_, h20⟩
  · rw [r_wq_out hf (by omega)]; exact j2 j hj
  · rw [r_wq_out hf (by omega), e2]; exact j4
theorem r_evq {M M' : EM} (h : r_ev M M') : a_fr r_wq M M' := a_sub_fr (by decide) h.2
theorem r_in1 {x lo hi : Int} {M : EM} (h : lo ≤ x ∧ x ≤ hi) : E_C 168 [x, lo, hi] M = some (1, M) := by rw [r_isIn, if_pos h]
theorem r_in0 {x lo hi : Int} {M : EM} (h : ¬ (lo ≤ x ∧ x ≤ hi)) : E_C 168 [x, lo, hi] M = some (0, M) := by rw [r_isIn, if_neg h]
theorem r_W_N {M : EM} (h : r_W (r_G M)) : r_N M := ⟨h.1, h.2.1⟩
theorem r_ip1 {p : Int} {M : EM} (h : r_W (r_G M)) (hp : 0 ≤ p ∧ p < r_G M 1198) : E_C 169 [192, p] M = some (1, M) := by rw [r_isPart (r_W_N h)]; exact congrArg some (congrArg (·, M) (if_pos hp))
theorem r_ip0 {p : Int} {M : EM} (h : r_W (r_G M)) (hp : ¬ (0 ≤ p ∧ p < r_G M 1198)) : E_C 169 [192, p] M = some (0, M) := by rw [r_isPart (r_W_N h)]; exact congrArg some (congrArg (·, M) (if_neg hp))
theorem r_same {M : EM} {u : Nat} {as : List Int} {r : Int} (hJ : r_J M) (k : E_C u as M = some (r, M)) : r_Q u as M := ⟨r, M, k, hJ.1, a_fr_rf, hJ.2.2.2.2⟩
/-- a field of the reference's own -/
theorem r_fup {M : EM} {k : Nat} {v : Int} (hk : 10 ≤ k ∧ k ≤ 35) (hv : -2147483648 ≤ v ∧ v ≤ 2147483647) (hM : a_M M) : a_M (e_up M 192 k v) ∧ a_fr r_wq M (e_up M 192 k v) ∧ r_G (e_up M 192 k v) = r_G M := by
  refine ⟨r_up (by decide) (by decide +kernel) (by decide +kernel) hv hM, fun b j hw => c_up_n (fun hc => hw _ List.mem_cons_self ⟨hc.1.symm, ?_, ?_⟩), ?_⟩
  · have := hc.2; show 10 ≤ j; omega
  · have := hc.2; show j ≤ 35; omega
  · funext i
    exact c_up_n (fun hc => absurd hc.1 (by decide))
theorem r_E_f {M : EM} {k : Nat} {v : Int} (hE : r_E M) (hk : 10 ≤ k ∧ k ≤ 35) (hk2 : k ≠ 20) (hv : -2147483648 ≤ v ∧ v ≤ 2147483647) : r_E (e_up M 192 k v) := by
  obtain ⟨e1, e2, e3⟩ := hE
  obtain ⟨f1, f2, f3⟩ := r_fup (v := v) hk hv e1
  refine ⟨f1, by rw [f3]; exact e2, ?_⟩
  rw [c_up_n (fun hc => hk2 hc.2.symm)]
  exact e3
theorem r_up20 {M : EM} {k : Nat} {v : Int} (hk : k ≠ 20) : (e_up M 192 k v) 192 20 = M 192 20 := c_up_n (fun hc => hk hc.2.symm)
theorem r_pt_of {M : EM} (hW : r_W (r_G M)) {p : Int} (hp : 0 ≤ p ∧ p < r_G M 1198) : r_pt (r_G M) (r_G M 1198) p := hW.2.2.1 p hp.1 hp.2
theorem r_40 {M : EM} (hW : r_W (r_G M)) {p : Int} (hp : 0 ≤ p ∧ p < r_G M 1198) : 0 ≤ p ∧ p < 40 := ⟨hp.1, by have := hW.2.1; omega⟩
theorem r_pt_cell {g : Int → Int} {b p : Int} (h : r_pt g b p) (hk : g (28 * p) = 0) : r_cl g b p := by
  rcases h with h | h | h | h
  · exact h
  · have := h.2.2.1; omega
  · have := h.2.2.1; omega
  · have := h.2.2.1; omega
theorem r_pt_row {g : Int → Int} {b p : Int} (h : r_pt g b p) (hk : g (28 * p) = 1) : r_rw g b p := by
  rcases h with h | h | h | h
  · have := h.2.2.1; omega
  · exact h
  · have := h.2.2.1; omega
  · have := h.2.2.1; omega
theorem r_point {p i w : Int} {M : EM} (hJ : r_J M) : r_Q 195 [192, p, i, w] M := by
  have hE := r_J_E hJ
  have hW := hE.2.1
  by_cases q0 : 0 ≤ p ∧ p < r_G M 1198
  · have ip := r_ip1 hW q0
    have h40 := r_40 hW q0
    have kk : E_C 170 [192, p] M = some (r_G M (28 * p), M) := r_kind h40
    by_cases q1 : 0 ≤ w ∧ w ≤ 1
    · have i1 := r_in1 (M := M) q1
      by_cases q2 : r_G M (28 * p) = 0
      · have hc := r_pt_cell (r_pt_of hW q0) q2
        have km : E_C 171 [192, p] M = some (r_G M (28 * p + 2), M) := r_many h40
        have hc4 := hc.2.2.2.1
        have hc5 := hc.2.2.2.2.1
        have w1 : e_w (r_G M (28 * p + 2) - 1) = r_G M (28 * p + 2) - 1 := a_w_id (by omega) (by omega)
        by_cases q3 : 0 ≤ i ∧ i ≤ r_G M (28 * p + 2) - 1
        · have i2 := r_in1 (M := M) q3
          obtain ⟨s, ks, hs⟩ := r_share hE h40 hc.2.2.2.2.2
          obtain ⟨a, ka, ha⟩ := r_currentAt (p := p) (i := i) (sh := s) (M := M) h40 ⟨q3.1, by omega⟩
          obtain ⟨t, kt, ht⟩ := r_pushAt (p := p) (i := i) (M := M) h40 ⟨q3.1, by omega⟩
          by_cases q4 : w = 0
          · refine r_same (r := t) hJ ?_
            subst q4
            rw [r_ent (show e_rok 195 [192, p, i, 0] = true from decide_eq_true r_ref)]
            show e_tv E_C (E_V 195) e_t195_0 [192, p, i, 0] M = _
            unfold e_t195_0
            simp [zq_a, zq_b, zq_c, zq_d, zq_e, zq_f, zq_g, zq_h, zq_i, zq_j, zq_k, zq_l, zq_m, zq_n, zq_o, zq_p, zq_q, zq_r, zq_s, zq_t, zq_u, zq_v, zq_w, zq_x, zq_y, zq_z, zq_A, zq_B, zq_C, zq_D, zq_E, zq_F, zq_G, zq_H, zq_I, zq_J, zq_K, zq_L, ↓zq_M, ↓zq_N, ↓zq_O, ↓zq_P, ↓zq_Q, ↓zq_R, zq_S, zq_T, zq_U, zq_V, zq_W, zq_X, zq_Y, zq_Z, zq_0, zq_1, zq_2, zq_3, zq_4, zq_5, ↓zq_6, ↓zq_7, ↓zq_8, ↓zq_9, ↓zq_aa, zq_ab, zq_ac, zq_ad, zq_ae, zq_af, zq_ag, ↓zq_ah, ↓zq_ai, ↓zq_aj, zq_ak, ↓zq_al, ↓zq_am, e_b1, e_b2, x_o1, x_o2, ip, i1, kk, q2, km, w1, i2, kt]
          · refine r_same (r := a) hJ ?_
            rw [r_ent (show e_rok 195 [192, p, i, w] = true from decide_eq_true r_ref)]
            show e_tv E_C (E_V 195) e_t195_0 [192, p, i, w] M = _
            unfold e_t195_0
            simp [zq_a, zq_b, zq_c, zq_d, zq_e, zq_f, zq_g, zq_h, zq_i, zq_j, zq_k, zq_l, zq_m, zq_n, zq_o, zq_p, zq_q, zq_r, zq_s, zq_t, zq_u, zq_v, zq_w, zq_x, zq_y, zq_z, zq_A, zq_B, zq_C, zq_D, zq_E, zq_F, zq_G, zq_H, zq_I, zq_J, zq_K, zq_L, ↓zq_M, ↓zq_N, ↓zq_O, ↓zq_P, ↓zq_Q, ↓zq_R, zq_S, zq_T, zq_U, zq_V, zq_W, zq_X, zq_Y, zq_Z, zq_0, zq_1, zq_2, zq_3, zq_4, zq_5, ↓zq_6, ↓zq_7, ↓zq_8, ↓zq_9, ↓zq_aa, zq_ab, zq_ac, zq_ad, zq_ae, zq_af, zq_ag, ↓zq_ah, ↓zq_ai, ↓zq_aj, zq_ak, ↓zq_al, ↓zq_am, e_b1, e_b2, x_o1, x_o2, ip, i1, kk, q2, km, w1, i2, ks, ka, q4]
        · have i2 := r_in0 (M := M) q3
          refine r_same (r := -1) hJ ?_
          rw [r_ent (show e_rok 195 [192, p, i, w] = true from decide_eq_true r_ref)]
          show e_tv E_C (E_V 195) e_t195_0 [192, p, i, w] M = _
          unfold e_t195_0
          simp [zq_a, zq_b, zq_c, zq_d, zq_e, zq_f, zq_g, zq_h, zq_i, zq_j, zq_k, zq_l, zq_m, zq_n, zq_o, zq_p, zq_q, zq_r, zq_s, zq_t, zq_u, zq_v, zq_w, zq_x, zq_y, zq_z, zq_A, zq_B, zq_C, zq_D, zq_E, zq_F, zq_G, zq_H, zq_I, zq_J, zq_K, zq_L, ↓zq_M, ↓zq_N, ↓zq_O, ↓zq_P, ↓zq_Q, ↓zq_R, zq_S, zq_T, zq_U, zq_V, zq_W, zq_X, zq_Y, zq_Z, zq_0, zq_1, zq_2, zq_3, zq_4, zq_5, ↓zq_6, ↓zq_7, ↓zq_8, ↓zq_9, ↓zq_aa, zq_ab, zq_ac, zq_ad, zq_ae, zq_af, zq_ag, ↓zq_ah, ↓zq_ai, ↓zq_aj, zq_ak, ↓zq_al, ↓zq_am, e_b1, e_b2, x_o1, x_o2, ip, i1, kk, q2, km, w1, i2]
      · refine r_same (r := -3) hJ ?_
        rw [r_ent (show e_rok 195 [192, p, i, w] = true from decide_eq_true r_ref)]
        show e_tv E_C (E_V 195) e_t195_0 [192, p, i, w] M = _
        unfold e_t195_0
        simp [zq_a, zq_b, zq_c, zq_d, zq_e, zq_f, zq_g, zq_h, zq_i, zq_j, zq_k, zq_l, zq_m, zq_n, zq_o, zq_p, zq_q, zq_r, zq_s, zq_t, zq_u, zq_v, zq_w, zq_x, zq_y, zq_z, zq_A, zq_B, zq_C, zq_D, zq_E, zq_F, zq_G, zq_H, zq_I, zq_J, zq_K, zq_L, ↓zq_M, ↓zq_N, ↓zq_O, ↓zq_P, ↓zq_Q, ↓zq_R, zq_S, zq_T, zq_U, zq_V, zq_W, zq_X, zq_Y, zq_Z, zq_0, zq_1, zq_2, zq_3, zq_4, zq_5, ↓zq_6, ↓zq_7, ↓zq_8, ↓zq_9, ↓zq_aa, zq_ab, zq_ac, zq_ad, zq_ae, zq_af, zq_ag, ↓zq_ah, ↓zq_ai, ↓zq_aj, zq_ak, ↓zq_al, ↓zq_am, e_b1, e_b2, x_o1, x_o2, ip, i1, kk, q2]
    · have i1 := r_in0 (M := M) q1
      refine r_same (r := -1) hJ ?_
      rw [r_ent (show e_rok 195 [192, p, i, w] = true from decide_eq_true r_ref)]
      show e_tv E_C (E_V 195) e_t195_0 [192, p, i, w] M = _
      unfold e_t195_0
      simp [zq_a, zq_b, zq_c, zq_d, zq_e, zq_f, zq_g, zq_h, zq_i, zq_j, zq_k, zq_l, zq_m, zq_n, zq_o, zq_p, zq_q, zq_r, zq_s, zq_t, zq_u, zq_v, zq_w, zq_x, zq_y, zq_z, zq_A, zq_B, zq_C, zq_D, zq_E, zq_F, zq_G, zq_H, zq_I, zq_J, zq_K, zq_L, ↓zq_M, ↓zq_N, ↓zq_O, ↓zq_P, ↓zq_Q, ↓zq_R, zq_S, zq_T, zq_U, zq_V, zq_W, zq_X, zq_Y, zq_Z, zq_0, zq_1, zq_2, zq_3, zq_4, zq_5, ↓zq_6, ↓zq_7, ↓zq_8, ↓zq_9, ↓zq_aa, zq_ab, zq_ac, zq_ad, zq_ae, zq_af, zq_ag, ↓zq_ah, ↓zq_ai, ↓zq_aj, zq_ak, ↓zq_al, ↓zq_am, e_b1, e_b2, x_o1, x_o2, ip, i1]
  · have ip := r_ip0 hW q0
    refine r_same (r := -1) hJ ?_
    rw [r_ent (show e_rok 195 [192, p, i, w] = true from decide_eq_true r_ref)]
    show e_tv E_C (E_V 195) e_t195_0 [192, p, i, w] M = _
    unfold e_t195_0
    simp [zq_a, zq_b, zq_c, zq_d, zq_e, zq_f, zq_g, zq_h, zq_i, zq_j, zq_k, zq_l, zq_m, zq_n, zq_o, zq_p, zq_q, zq_r, zq_s, zq_t, zq_u, zq_v, zq_w, zq_x, zq_y, zq_z, zq_A, zq_B, zq_C, zq_D, zq_E, zq_F, zq_G, zq_H, zq_I, zq_J, zq_K, zq_L, ↓zq_M, ↓zq_N, ↓zq_O, ↓zq_P, ↓zq_Q, ↓zq_R, zq_S, zq_T, zq_U, zq_V, zq_W, zq_X, zq_Y, zq_Z, zq_0, zq_1, zq_2, zq_3, zq_4, zq_5, ↓zq_6, ↓zq_7, ↓zq_8, ↓zq_9, ↓zq_aa, zq_ab, zq_ac, zq_ad, zq_ae, zq_af, zq_ag, ↓zq_ah, ↓zq_ai, ↓zq_aj, zq_ak, ↓zq_al, ↓zq_am, e_b1, e_b2, x_o1, x_o2, ip]
theorem r_current {p u : Int} {M : EM} (hJ : r_J M) : r_Q 207 [192, p, u] M := by
  have hE := r_J_E hJ
  have hW := hE.2.1
  by_cases q0 : 0 ≤ p ∧ p < r_G M 1198
  · have ip := r_ip1 hW q0
    by_cases q1 : -50 ≤ u ∧ u ≤ 999
    · have i1 := r_in1 (M := M) q1
      obtain ⟨r, k, hr⟩ := r_currentOf (u := u) hE hW.2.1 (r_pt_of hW q0)
      refine r_same (r := r) hJ ?_
      rw [r_ent (show e_rok 207 [192, p, u] = true from decide_eq_true r_ref)]
      show e_tv E_C (E_V 207) e_t207_0 [192, p, u] M = _
      unfold e_t207_0
      simp [zq_a, zq_b, zq_c, zq_d, zq_e, zq_f, zq_g, zq_h, zq_i, zq_j, zq_k, zq_l, zq_m, zq_n, zq_o, zq_p, zq_q, zq_r, zq_s, zq_t, zq_u, zq_v, zq_w, zq_x, zq_y, zq_z, zq_A, zq_B, zq_C, zq_D, zq_E, zq_F, zq_G, zq_H, zq_I, zq_J, zq_K, zq_L, ↓zq_M, ↓zq_N, ↓zq_O, ↓zq_P, ↓zq_Q, ↓zq_R, zq_S, zq_T, zq_U, zq_V, zq_W, zq_X, zq_Y, zq_Z, zq_0, zq_1, zq_2, zq_3, zq_4, zq_5, ↓zq_6, ↓zq_7, ↓zq_8, ↓zq_9, ↓zq_aa, zq_ab, zq_ac, zq_ad, zq_ae, zq_af, zq_ag, ↓zq_ah, ↓zq_ai, ↓zq_aj, zq_ak, ↓zq_al, ↓zq_am, e_b1, e_b2, x_o1, x_o2, ip, i1, k]
    · have i1 := r_in0 (M := M) q1
      refine r_same (r := -1) hJ ?_
      rw [r_ent (show e_rok 207 [192, p, u] = true from decide_eq_true r_ref)]
      show e_tv E_C (E_V 207) e_t207_0 [192, p, u] M = _
      unfold e_t207_0
      simp [zq_a, zq_b, zq_c, zq_d, zq_e, zq_f, zq_g, zq_h, zq_i, zq_j, zq_k, zq_l, zq_m, zq_n, zq_o, zq_p, zq_q, zq_r, zq_s, zq_t, zq_u, zq_v, zq_w, zq_x, zq_y, zq_z, zq_A, zq_B, zq_C, zq_D, zq_E, zq_F, zq_G, zq_H, zq_I, zq_J, zq_K, zq_L, ↓zq_M, ↓zq_N, ↓zq_O, ↓zq_P, ↓zq_Q, ↓zq_R, zq_S, zq_T, zq_U, zq_V, zq_W, zq_X, zq_Y, zq_Z, zq_0, zq_1, zq_2, zq_3, zq_4, zq_5, ↓zq_6, ↓zq_7, ↓zq_8, ↓zq_9, ↓zq_aa, zq_ab, zq_ac, zq_ad, zq_ae, zq_af, zq_ag, ↓zq_ah, ↓zq_ai, ↓zq_aj, zq_ak, ↓zq_al, ↓zq_am, e_b1, e_b2, x_o1, x_o2, ip, i1]
  · have ip := r_ip0 hW q0
    refine r_same (r := -1) hJ ?_
    rw [r_ent (show e_rok 207 [192, p, u] = true from decide_eq_true r_ref)]
    show e_tv E_C (E_V 207) e_t207_0 [192, p, u] M = _
    unfold e_t207_0
    simp [zq_a, zq_b, zq_c, zq_d, zq_e, zq_f, zq_g, zq_h, zq_i, zq_j, zq_k, zq_l, zq_m, zq_n, zq_o, zq_p, zq_q, zq_r, zq_s, zq_t, zq_u, zq_v, zq_w, zq_x, zq_y, zq_z, zq_A, zq_B, zq_C, zq_D, zq_E, zq_F, zq_G, zq_H, zq_I, zq_J, zq_K, zq_L, ↓zq_M, ↓zq_N, ↓zq_O, ↓zq_P, ↓zq_Q, ↓zq_R, zq_S, zq_T, zq_U, zq_V, zq_W, zq_X, zq_Y, zq_Z, zq_0, zq_1, zq_2, zq_3, zq_4, zq_5, ↓zq_6, ↓zq_7, ↓zq_8, ↓zq_9, ↓zq_aa, zq_ab, zq_ac, zq_ad, zq_ae, zq_af, zq_ag, ↓zq_ah, ↓zq_ai, ↓zq_aj, zq_ak, ↓zq_al, ↓zq_am, e_b1, e_b2, x_o1, x_o2, ip]
theorem r_best {p w : Int} {M : EM} (hJ : r_J M) : r_Q 210 [192, p, w] M := by
  have hE := r_J_E hJ
  have hW := hE.2.1
  by_cases q0 : 0 ≤ p ∧ p < r_G M 1198
  · have ip := r_ip1 hW q0
    by_cases q1 : 0 ≤ w ∧ w ≤ 2
    · have i1 := r_in1 (M := M) q1
      obtain ⟨M1, k1, e1⟩ := r_gives hE hW.2.1 (r_pt_of hW q0)
      obtain ⟨u, ku, hu⟩ := r_bestOf e1.1
      have g1 := r_rd5 (M := M1) hu.1 (by omega)
      have h20 : M1 192 20 = -1 := by rw [r_ev_same e1 (by decide) (by decide)]; exact hJ.2.2.2.2
      by_cases q2 : w = 0
      · subst q2
        refine ⟨e_w (u * M1 205 u.toNat), M1, ?_, e1.1, r_evq e1, h20⟩
        rw [r_ent (show e_rok 210 [192, p, 0] = true from decide_eq_true r_ref)]
        show e_tv E_C (E_V 210) e_t210_0 [192, p, 0, 0] M = _
        unfold e_t210_0
        simp [zq_a, zq_b, zq_c, zq_d, zq_e, zq_f, zq_g, zq_h, zq_i, zq_j, zq_k, zq_l, zq_m, zq_n, zq_o, zq_p, zq_q, zq_r, zq_s, zq_t, zq_u, zq_v, zq_w, zq_x, zq_y, zq_z, zq_A, zq_B, zq_C, zq_D, zq_E, zq_F, zq_G, zq_H, zq_I, zq_J, zq_K, zq_L, ↓zq_M, ↓zq_N, ↓zq_O, ↓zq_P, ↓zq_Q, ↓zq_R, zq_S, zq_T, zq_U, zq_V, zq_W, zq_X, zq_Y, zq_Z, zq_0, zq_1, zq_2, zq_3, zq_4, zq_5, ↓zq_6, ↓zq_7, ↓zq_8, ↓zq_9, ↓zq_aa, zq_ab, zq_ac, zq_ad, zq_ae, zq_af, zq_ag, ↓zq_ah, ↓zq_ai, ↓zq_aj, zq_ak, ↓zq_al, ↓zq_am, e_b1, e_b2, x_o1, x_o2, r_O25, ip, i1, k1, ku, g1]
      · by_cases q3 : w = 1
        · subst q3
          refine ⟨u, M1, ?_, e1.1, r_evq e1, h20⟩
          rw [r_ent (show e_rok 210 [192, p, 1] = true from decide_eq_true r_ref)]
          show e_tv E_C (E_V 210) e_t210_0 [192, p, 1, 0] M = _
          unfold e_t210_0
          simp [zq_a, zq_b, zq_c, zq_d, zq_e, zq_f, zq_g, zq_h, zq_i, zq_j, zq_k, zq_l, zq_m, zq_n, zq_o, zq_p, zq_q, zq_r, zq_s, zq_t, zq_u, zq_v, zq_w, zq_x, zq_y, zq_z, zq_A, zq_B, zq_C, zq_D, zq_E, zq_F, zq_G, zq_H, zq_I, zq_J, zq_K, zq_L, ↓zq_M, ↓zq_N, ↓zq_O, ↓zq_P, ↓zq_Q, ↓zq_R, zq_S, zq_T, zq_U, zq_V, zq_W, zq_X, zq_Y, zq_Z, zq_0, zq_1, zq_2, zq_3, zq_4, zq_5, ↓zq_6, ↓zq_7, ↓zq_8, ↓zq_9, ↓zq_aa, zq_ab, zq_ac, zq_ad, zq_ae, zq_af, zq_ag, ↓zq_ah, ↓zq_ai, ↓zq_aj, zq_ak, ↓zq_al, ↓zq_am, e_b1, e_b2, x_o1, x_o2, r_O25, ip, i1, k1, ku, g1]
        · refine ⟨M1 205 u.toNat, M1, ?_, e1.1, r_evq e1, h20⟩
          rw [r_ent (show e_rok 210 [192, p, w] = true from decide_eq_true r_ref)]
          show e_tv E_C (E_V 210) e_t210_0 [192, p, w, 0] M = _
          unfold e_t210_0
          simp [zq_a, zq_b, zq_c, zq_d, zq_e, zq_f, zq_g, zq_h, zq_i, zq_j, zq_k, zq_l, zq_m, zq_n, zq_o, zq_p, zq_q, zq_r, zq_s, zq_t, zq_u, zq_v, zq_w, zq_x, zq_y, zq_z, zq_A, zq_B, zq_C, zq_D, zq_E, zq_F, zq_G, zq_H, zq_I, zq_J, zq_K, zq_L, ↓zq_M, ↓zq_N, ↓zq_O, ↓zq_P, ↓zq_Q, ↓zq_R, zq_S, zq_T, zq_U, zq_V, zq_W, zq_X, zq_Y, zq_Z, zq_0, zq_1, zq_2, zq_3, zq_4, zq_5, ↓zq_6, ↓zq_7, ↓zq_8, ↓zq_9, ↓zq_aa, zq_ab, zq_ac, zq_ad, zq_ae, zq_af, zq_ag, ↓zq_ah, ↓zq_ai, ↓zq_aj, zq_ak, ↓zq_al, ↓zq_am, e_b1, e_b2, x_o1, x_o2, r_O25, ip, i1, k1, ku, g1, q2, q3]
    · have i1 := r_in0 (M := M) q1
      refine r_same (r := -1) hJ ?_
      rw [r_ent (show e_rok 210 [192, p, w] = true from decide_eq_true r_ref)]
      show e_tv E_C (E_V 210) e_t210_0 [192, p, w, 0] M = _
      unfold e_t210_0
      simp [zq_a, zq_b, zq_c, zq_d, zq_e, zq_f, zq_g, zq_h, zq_i, zq_j, zq_k, zq_l, zq_m, zq_n, zq_o, zq_p, zq_q, zq_r, zq_s, zq_t, zq_u, zq_v, zq_w, zq_x, zq_y, zq_z, zq_A, zq_B, zq_C, zq_D, zq_E, zq_F, zq_G, zq_H, zq_I, zq_J, zq_K, zq_L, ↓zq_M, ↓zq_N, ↓zq_O, ↓zq_P, ↓zq_Q, ↓zq_R, zq_S, zq_T, zq_U, zq_V, zq_W, zq_X, zq_Y, zq_Z, zq_0, zq_1, zq_2, zq_3, zq_4, zq_5, ↓zq_6, ↓zq_7, ↓zq_8, ↓zq_9, ↓zq_aa, zq_ab, zq_ac, zq_ad, zq_ae, zq_af, zq_ag, ↓zq_ah, ↓zq_ai, ↓zq_aj, zq_ak, ↓zq_al, ↓zq_am, e_b1, e_b2, x_o1, x_o2, ip, i1]
  · have ip := r_ip0 hW q0
    refine r_same (r := -1) hJ ?_
    rw [r_ent (show e_rok 210 [192, p, w] = true from decide_eq_true r_ref)]
    show e_tv E_C (E_V 210) e_t210_0 [192, p, w, 0] M = _
    unfold e_t210_0
    simp [zq_a, zq_b, zq_c, zq_d, zq_e, zq_f, zq_g, zq_h, zq_i, zq_j, zq_k, zq_l, zq_m, zq_n, zq_o, zq_p, zq_q, zq_r, zq_s, zq_t, zq_u, zq_v, zq_w, zq_x, zq_y, zq_z, zq_A, zq_B, zq_C, zq_D, zq_E, zq_F, zq_G, zq_H, zq_I, zq_J, zq_K, zq_L, ↓zq_M, ↓zq_N, ↓zq_O, ↓zq_P, ↓zq_Q, ↓zq_R, zq_S, zq_T, zq_U, zq_V, zq_W, zq_X, zq_Y, zq_Z, zq_0, zq_1, zq_2, zq_3, zq_4, zq_5, ↓zq_6, ↓zq_7, ↓zq_8, ↓zq_9, ↓zq_aa, zq_ab, zq_ac, zq_ad, zq_ae, zq_af, zq_ag, ↓zq_ah, ↓zq_ai, ↓zq_aj, zq_ak, ↓zq_al, ↓zq_am, e_b1, e_b2, x_o1, x_o2, ip]
theorem r_push_loop {p c x3 : Int} {M : EM} (hM : a_M M) : ∀ (m : Nat) (x4 : Int), (x4 + 1).toNat ≤ m → x4 ≤ 999 → -1 ≤ x4 → ∃ r, E_V 206 86 [192, p, c, x3, x4] M = some (r, M) := by
  have hend : ∀ x4, ¬ (0 ≤ x4) → ∃ r, E_V 206 86 [192, p, c, x3, x4] M = some (r, M) := by
    intro x4 q
    refine ⟨x4, ?_⟩
    rw [E_V_eq]
    show e_tv E_C (E_V 206) e_t206_86 [192, p, c, x3, x4] M = _
    unfold e_t206_86
    simp [zq_a, zq_b, zq_c, zq_d, zq_e, zq_f, zq_g, zq_h, zq_i, zq_j, zq_k, zq_l, zq_m, zq_n, zq_o, zq_p, zq_q, zq_r, zq_s, zq_t, zq_u, zq_v, zq_w, zq_x, zq_y, zq_z, zq_A, zq_B, zq_C, zq_D, zq_E, zq_F, zq_G, zq_H, zq_I, zq_J, zq_K, zq_L, ↓zq_M, ↓zq_N, ↓zq_O, ↓zq_P, ↓zq_Q, ↓zq_R, zq_S, zq_T, zq_U, zq_V, zq_W, zq_X, zq_Y, zq_Z, zq_0, zq_1, zq_2, zq_3, zq_4, zq_5, ↓zq_6, ↓zq_7, ↓zq_8, ↓zq_9, ↓zq_aa, zq_ab, zq_ac, zq_ad, zq_ae, zq_af, zq_ag, ↓zq_ah, ↓zq_ai, ↓zq_aj, zq_ak, ↓zq_al, ↓zq_am, e_b1, e_b2, x_o1, x_o2, q]
  intro m
  induction m with
  | zero => intro x4 hm h0 h1; exact hend x4 (by omega)
  | succ m ih =>
    intro x4 hm h0 h1
    rcases x_le 0 x4 with ⟨q, q_n⟩ | ⟨q, q_n⟩
    · have g1 := r_rd5 (M := M) q (by omega)
      rcases x_lt (M 205 x4.toNat) c with ⟨c1, c1_n⟩ | ⟨c1, c1_n⟩
      · have w4 : e_w (x4 + -1) = x4 - 1 := a_w_id (by omega) (by omega)
        obtain ⟨r, k⟩ := ih (x4 - 1) (by omega) (by omega) (by omega)
        refine ⟨r, ?_⟩
        rw [E_V_eq]
        show e_tv E_C (E_V 206) e_t206_86 [192, p, c, x3, x4] M = _
        unfold e_t206_86
        simp [zq_a, zq_b, zq_c, zq_d, zq_e, zq_f, zq_g, zq_h, zq_i, zq_j, zq_k, zq_l, zq_m, zq_n, zq_o, zq_p, zq_q, zq_r, zq_s, zq_t, zq_u, zq_v, zq_w, zq_x, zq_y, zq_z, zq_A, zq_B, zq_C, zq_D, zq_E, zq_F, zq_G, zq_H, zq_I, zq_J, zq_K, zq_L, ↓zq_M, ↓zq_N, ↓zq_O, ↓zq_P, ↓zq_Q, ↓zq_R, zq_S, zq_T, zq_U, zq_V, zq_W, zq_X, zq_Y, zq_Z, zq_0, zq_1, zq_2, zq_3, zq_4, zq_5, ↓zq_6, ↓zq_7, ↓zq_8, ↓zq_9, ↓zq_aa, zq_ab, zq_ac, zq_ad, zq_ae, zq_af, zq_ag, ↓zq_ah, ↓zq_ai, ↓zq_aj, zq_ak, ↓zq_al, ↓zq_am, e_b1, e_b2, x_o1, x_o2, r_O25, q, q_n, g1, c1, c1_n, w4, k]
      · refine ⟨x4, ?_⟩
        rw [E_V_eq]
        show e_tv E_C (E_V 206) e_t206_86 [192, p, c, x3, x4] M = _
        unfold e_t206_86
        simp [zq_a, zq_b, zq_c, zq_d, zq_e, zq_f, zq_g, zq_h, zq_i, zq_j, zq_k, zq_l, zq_m, zq_n, zq_o, zq_p, zq_q, zq_r, zq_s, zq_t, zq_u, zq_v, zq_w, zq_x, zq_y, zq_z, zq_A, zq_B, zq_C, zq_D, zq_E, zq_F, zq_G, zq_H, zq_I, zq_J, zq_K, zq_L, ↓zq_M, ↓zq_N, ↓zq_O, ↓zq_P, ↓zq_Q, ↓zq_R, zq_S, zq_T, zq_U, zq_V, zq_W, zq_X, zq_Y, zq_Z, zq_0, zq_1, zq_2, zq_3, zq_4, zq_5, ↓zq_6, ↓zq_7, ↓zq_8, ↓zq_9, ↓zq_aa, zq_ab, zq_ac, zq_ad, zq_ae, zq_af, zq_ag, ↓zq_ah, ↓zq_ai, ↓zq_aj, zq_ak, ↓zq_al, ↓zq_am, e_b1, e_b2, x_o1, x_o2, r_O25, q, q_n, g1, c1, c1_n]
    · exact hend x4 q
theorem r_push {p c : Int} {M : EM} (hJ : r_J M) : r_Q 206 [192, p, c] M := by
  have hE := r_J_E hJ
  have hW := hE.2.1
  have f1 := r_fup (M := M) (k := 10) (v := 1) (by decide) (by decide) hJ.1
  have f0 := r_fup (M := M) (k := 10) (v := 0) (by decide) (by decide) hJ.1
  have t1 : (e_up M 192 10 1) 192 20 = -1 := (r_up20 (by decide)).trans hJ.2.2.2.2
  have t0 : (e_up M 192 10 0) 192 20 = -1 := (r_up20 (by decide)).trans hJ.2.2.2.2
  by_cases q0 : 0 ≤ p ∧ p < r_G M 1198
  · have ip := r_ip1 hW q0
    have h40 := r_40 hW q0
    by_cases q1 : 0 ≤ c ∧ c ≤ 999
    · have i1 := r_in1 (M := M) q1
      have hp := r_pt_of hW q0
      have E1 : r_E (e_up M 192 10 0) := r_E_f hE (by decide) (by decide) (by decide)
      have kk : E_C 170 [192, p] (e_up M 192 10 0) = some (r_G M (28 * p), e_up M 192 10 0) := by rw [← f0.2.2]; exact r_kind h40
      have hlow : ∀ b q, b ≤ 40 → (r_cl (r_G M) b q ∨ r_rw (r_G M) b q) → r_P 201 [192, q, c] (e_up M 192 10 0) := fun b q hb hq => r_lowPush E1 hb (by rw [f0.2.2]; exact hq)
      have hfd : ∀ b q, b ≤ 40 → r_fd (r_G M) b q → ∃ M1, E_C 203 [192, q] (e_up M 192 10 0) = some (0, M1) ∧ r_ev (e_up M 192 10 0) M1 := fun b q hb hq => r_gives E1 hb (Or.inr (Or.inr (Or.inl (by rw [f0.2.2]; exact hq))))
      rcases hp with hp | hp | hp | hp
      · obtain ⟨l, kl, hl⟩ := hlow _ _ hW.2.1 (Or.inl hp)
        have a3 := hp.2.2.1
        refine ⟨l, _, ?_, f0.1, f0.2.1, t0⟩
        rw [r_ent (show e_rok 206 [192, p, c] = true from decide_eq_true r_ref)]
        show e_tv E_C (E_V 206) e_t206_0 [192, p, c, 0, 0] M = _
        unfold e_t206_0
        simp [zq_a, zq_b, zq_c, zq_d, zq_e, zq_f, zq_g, zq_h, zq_i, zq_j, zq_k, zq_l, zq_m, zq_n, zq_o, zq_p, zq_q, zq_r, zq_s, zq_t, zq_u, zq_v, zq_w, zq_x, zq_y, zq_z, zq_A, zq_B, zq_C, zq_D, zq_E, zq_F, zq_G, zq_H, zq_I, zq_J, zq_K, zq_L, ↓zq_M, ↓zq_N, ↓zq_O, ↓zq_P, ↓zq_Q, ↓zq_R, zq_S, zq_T, zq_U, zq_V, zq_W, zq_X, zq_Y, zq_Z, zq_0, zq_1, zq_2, zq_3, zq_4, zq_5, ↓zq_6, ↓zq_7, ↓zq_8, ↓zq_9, ↓zq_aa, zq_ab, zq_ac, zq_ad, zq_ae, zq_af, zq_ag, ↓zq_ah, ↓zq_ai, ↓zq_aj, zq_ak, ↓zq_al, ↓zq_am, e_b1, e_b2, x_o1, x_o2, r_P10, r_F10, c_up_s, ip, i1, kk, a3, kl]
      · obtain ⟨l, kl, hl⟩ := hlow _ _ hW.2.1 (Or.inr hp)
        have a3 := hp.2.2.1
        refine ⟨l, _, ?_, f0.1, f0.2.1, t0⟩
        rw [r_ent (show e_rok 206 [192, p, c] = true from decide_eq_true r_ref)]
        show e_tv E_C (E_V 206) e_t206_0 [192, p, c, 0, 0] M = _
        unfold e_t206_0
        simp [zq_a, zq_b, zq_c, zq_d, zq_e, zq_f, zq_g, zq_h, zq_i, zq_j, zq_k, zq_l, zq_m, zq_n, zq_o, zq_p, zq_q, zq_r, zq_s, zq_t, zq_u, zq_v, zq_w, zq_x, zq_y, zq_z, zq_A, zq_B, zq_C, zq_D, zq_E, zq_F, zq_G, zq_H, zq_I, zq_J, zq_K, zq_L, ↓zq_M, ↓zq_N, ↓zq_O, ↓zq_P, ↓zq_Q, ↓zq_R, zq_S, zq_T, zq_U, zq_V, zq_W, zq_X, zq_Y, zq_Z, zq_0, zq_1, zq_2, zq_3, zq_4, zq_5, ↓zq_6, ↓zq_7, ↓zq_8, ↓zq_9, ↓zq_aa, zq_ab, zq_ac, zq_ad, zq_ae, zq_af, zq_ag, ↓zq_ah, ↓zq_ai, ↓zq_aj, zq_ak, ↓zq_al, ↓zq_am, e_b1, e_b2, x_o1, x_o2, r_P10, r_F10, c_up_s, ip, i1, kk, a3, kl]
      · obtain ⟨M1, k1, e1⟩ := hfd _ _ hW.2.1 hp
        have a3 := hp.2.2.1
        obtain ⟨r, k⟩ := r_push_loop (p := p) (c := c) (x3 := p) e1.1 1000 999 (by decide) (by decide) (by decide)
        refine ⟨r, M1, ?_, e1.1, a_fr_tr f0.2.1 (r_evq e1), by rw [r_ev_same e1 (by decide) (by decide)]; exact t0⟩
        rw [r_ent (show e_rok 206 [192, p, c] = true from decide_eq_true r_ref)]
        show e_tv E_C (E_V 206) e_t206_0 [192, p, c, 0, 0] M = _
        unfold e_t206_0
        simp [zq_a, zq_b, zq_c, zq_d, zq_e, zq_f, zq_g, zq_h, zq_i, zq_j, zq_k, zq_l, zq_m, zq_n, zq_o, zq_p, zq_q, zq_r, zq_s, zq_t, zq_u, zq_v, zq_w, zq_x, zq_y, zq_z, zq_A, zq_B, zq_C, zq_D, zq_E, zq_F, zq_G, zq_H, zq_I, zq_J, zq_K, zq_L, ↓zq_M, ↓zq_N, ↓zq_O, ↓zq_P, ↓zq_Q, ↓zq_R, zq_S, zq_T, zq_U, zq_V, zq_W, zq_X, zq_Y, zq_Z, zq_0, zq_1, zq_2, zq_3, zq_4, zq_5, ↓zq_6, ↓zq_7, ↓zq_8, ↓zq_9, ↓zq_aa, zq_ab, zq_ac, zq_ad, zq_ae, zq_af, zq_ag, ↓zq_ah, ↓zq_ai, ↓zq_aj, zq_ak, ↓zq_al, ↓zq_am, e_b1, e_b2, x_o1, x_o2, r_P10, r_F10, c_up_s, ip, i1, kk, a3, k1, k]
      · obtain ⟨a1, a2, a3, a4, a5⟩ := hp
        have ko : E_C 172 [192, p, 0] (e_up M 192 10 0) = some (r_G M (28 * p + 3), e_up M 192 10 0) := by
          have h := r_of (M := e_up M 192 10 0) (p := p) (k := 0) h40 ⟨by decide, by decide⟩
          rw [Int.add_zero] at h
          rw [← f0.2.2]
          exact h
        have hq : 0 ≤ r_G M (28 * p + 3) ∧ r_G M (28 * p + 3) < 40 := by
          rcases a5 with h | h | h
          · exact ⟨h.1, by have := h.2.1; omega⟩
          · exact ⟨h.1, by have := h.2.1; omega⟩
          · exact ⟨h.1, by have := h.2.1; omega⟩
        have kq : E_C 170 [192, r_G M (28 * p + 3)] (e_up M 192 10 0) = some (r_G M (28 * r_G M (28 * p + 3)), e_up M 192 10 0) := by
          have h := r_kind (M := e_up M 192 10 0) hq
          have h2 := congrFun f0.2.2 (28 * r_G M (28 * p + 3))
          unfold r_G at h2 ⊢
          unfold r_G at h
          rw [h2] at h
          exact h
        rcases a5 with h | h | h
        · obtain ⟨l, kl, hl⟩ := hlow _ _ (by omega) (Or.inl h)
          have b3 := h.2.2.1
          refine ⟨l, _, ?_, f0.1, f0.2.1, t0⟩
          rw [r_ent (show e_rok 206 [192, p, c] = true from decide_eq_true r_ref)]
          show e_tv E_C (E_V 206) e_t206_0 [192, p, c, 0, 0] M = _
          unfold e_t206_0
          simp [zq_a, zq_b, zq_c, zq_d, zq_e, zq_f, zq_g, zq_h, zq_i, zq_j, zq_k, zq_l, zq_m, zq_n, zq_o, zq_p, zq_q, zq_r, zq_s, zq_t, zq_u, zq_v, zq_w, zq_x, zq_y, zq_z, zq_A, zq_B, zq_C, zq_D, zq_E, zq_F, zq_G, zq_H, zq_I, zq_J, zq_K, zq_L, ↓zq_M, ↓zq_N, ↓zq_O, ↓zq_P, ↓zq_Q, ↓zq_R, zq_S, zq_T, zq_U, zq_V, zq_W, zq_X, zq_Y, zq_Z, zq_0, zq_1, zq_2, zq_3, zq_4, zq_5, ↓zq_6, ↓zq_7, ↓zq_8, ↓zq_9, ↓zq_aa, zq_ab, zq_ac, zq_ad, zq_ae, zq_af, zq_ag, ↓zq_ah, ↓zq_ai, ↓zq_aj, zq_ak, ↓zq_al, ↓zq_am, e_b1, e_b2, x_o1, x_o2, r_P10, r_F10, c_up_s, ip, i1, kk, a3, ko, kq, b3, kl]
        · obtain ⟨l, kl, hl⟩ := hlow _ _ (by omega) (Or.inr h)
          have b3 := h.2.2.1
          refine ⟨l, _, ?_, f0.1, f0.2.1, t0⟩
          rw [r_ent (show e_rok 206 [192, p, c] = true from decide_eq_true r_ref)]
          show e_tv E_C (E_V 206) e_t206_0 [192, p, c, 0, 0] M = _
          unfold e_t206_0
          simp [zq_a, zq_b, zq_c, zq_d, zq_e, zq_f, zq_g, zq_h, zq_i, zq_j, zq_k, zq_l, zq_m, zq_n, zq_o, zq_p, zq_q, zq_r, zq_s, zq_t, zq_u, zq_v, zq_w, zq_x, zq_y, zq_z, zq_A, zq_B, zq_C, zq_D, zq_E, zq_F, zq_G, zq_H, zq_I, zq_J, zq_K, zq_L, ↓zq_M, ↓zq_N, ↓zq_O, ↓zq_P, ↓zq_Q, ↓zq_R, zq_S, zq_T, zq_U, zq_V, zq_W, zq_X, zq_Y, zq_Z, zq_0, zq_1, zq_2, zq_3, zq_4, zq_5, ↓zq_6, ↓zq_7, ↓zq_8, ↓zq_9, ↓zq_aa, zq_ab, zq_ac, zq_ad, zq_ae, zq_af, zq_ag, ↓zq_ah, ↓zq_ai, ↓zq_aj, zq_ak, ↓zq_al, ↓zq_am, e_b1, e_b2, x_o1, x_o2, r_P10, r_F10, c_up_s, ip, i1, kk, a3, ko, kq, b3, kl]
        · obtain ⟨M1, k1, e1⟩ := hfd _ _ (by omega) h
          have b3 := h.2.2.1
          obtain ⟨r, k⟩ := r_push_loop (p := p) (c := c) (x3 := r_G M (28 * p + 3)) e1.1 1000 999 (by decide) (by decide) (by decide)
          refine ⟨r, M1, ?_, e1.1, a_fr_tr f0.2.1 (r_evq e1), by rw [r_ev_same e1 (by decide) (by decide)]; exact t0⟩
          rw [r_ent (show e_rok 206 [192, p, c] = true from decide_eq_true r_ref)]
          show e_tv E_C (E_V 206) e_t206_0 [192, p, c, 0, 0] M = _
          unfold e_t206_0
          simp [zq_a, zq_b, zq_c, zq_d, zq_e, zq_f, zq_g, zq_h, zq_i, zq_j, zq_k, zq_l, zq_m, zq_n, zq_o, zq_p, zq_q, zq_r, zq_s, zq_t, zq_u, zq_v, zq_w, zq_x, zq_y, zq_z, zq_A, zq_B, zq_C, zq_D, zq_E, zq_F, zq_G, zq_H, zq_I, zq_J, zq_K, zq_L, ↓zq_M, ↓zq_N, ↓zq_O, ↓zq_P, ↓zq_Q, ↓zq_R, zq_S, zq_T, zq_U, zq_V, zq_W, zq_X, zq_Y, zq_Z, zq_0, zq_1, zq_2, zq_3, zq_4, zq_5, ↓zq_6, ↓zq_7, ↓zq_8, ↓zq_9, ↓zq_aa, zq_ab, zq_ac, zq_ad, zq_ae, zq_af, zq_ag, ↓zq_ah, ↓zq_ai, ↓zq_aj, zq_ak, ↓zq_al, ↓zq_am, e_b1, e_b2, x_o1, x_o2, r_P10, r_F10, c_up_s, ip, i1, kk, a3, ko, kq, b3, k1, k]
    · have i1 := r_in0 (M := M) q1
      refine ⟨0, _, ?_, f1.1, f1.2.1, t1⟩
      rw [r_ent (show e_rok 206 [192, p, c] = true from decide_eq_true r_ref)]
      show e_tv E_C (E_V 206) e_t206_0 [192, p, c, 0, 0] M = _
      unfold e_t206_0
      simp [zq_a, zq_b, zq_c, zq_d, zq_e, zq_f, zq_g, zq_h, zq_i, zq_j, zq_k, zq_l, zq_m, zq_n, zq_o, zq_p, zq_q, zq_r, zq_s, zq_t, zq_u, zq_v, zq_w, zq_x, zq_y, zq_z, zq_A, zq_B, zq_C, zq_D, zq_E, zq_F, zq_G, zq_H, zq_I, zq_J, zq_K, zq_L, ↓zq_M, ↓zq_N, ↓zq_O, ↓zq_P, ↓zq_Q, ↓zq_R, zq_S, zq_T, zq_U, zq_V, zq_W, zq_X, zq_Y, zq_Z, zq_0, zq_1, zq_2, zq_3, zq_4, zq_5, ↓zq_6, ↓zq_7, ↓zq_8, ↓zq_9, ↓zq_aa, zq_ab, zq_ac, zq_ad, zq_ae, zq_af, zq_ag, ↓zq_ah, ↓zq_ai, ↓zq_aj, zq_ak, ↓zq_al, ↓zq_am, e_b1, e_b2, x_o1, x_o2, r_P10, r_F10, c_up_s, ip, i1]
  · have ip := r_ip0 hW q0
    refine ⟨0, _, ?_, f1.1, f1.2.1, t1⟩
    rw [r_ent (show e_rok 206 [192, p, c] = true from decide_eq_true r_ref)]
    show e_tv E_C (E_V 206) e_t206_0 [192, p, c, 0, 0] M = _
    unfold e_t206_0
    simp [zq_a, zq_b, zq_c, zq_d, zq_e, zq_f, zq_g, zq_h, zq_i, zq_j, zq_k, zq_l, zq_m, zq_n, zq_o, zq_p, zq_q, zq_r, zq_s, zq_t, zq_u, zq_v, zq_w, zq_x, zq_y, zq_z, zq_A, zq_B, zq_C, zq_D, zq_E, zq_F, zq_G, zq_H, zq_I, zq_J, zq_K, zq_L, ↓zq_M, ↓zq_N, ↓zq_O, ↓zq_P, ↓zq_Q, ↓zq_R, zq_S, zq_T, zq_U, zq_V, zq_W, zq_X, zq_Y, zq_Z, zq_0, zq_1, zq_2, zq_3, zq_4, zq_5, ↓zq_6, ↓zq_7, ↓zq_8, ↓zq_9, ↓zq_aa, zq_ab, zq_ac, zq_ad, zq_ae, zq_af, zq_ag, ↓zq_ah, ↓zq_ai, ↓zq_aj, zq_ak, ↓zq_al, ↓zq_am, e_b1, e_b2, x_o1, x_o2, r_P10, r_F10, c_up_s, ip]
