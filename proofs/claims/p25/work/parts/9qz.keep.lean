section
/-! SHELVES: keep -/
def h_wH : AW := [(199, 0, 7), (200, 0, 7), (201, 0, 7)]
theorem h_sh_up {M : EM} {a k : Nat} {v : Int} (ha : a = 199 ∨ a = 200 ∨ a = 201) (hk : k ≤ 7) (hv : -2147483648 ≤ v ∧ v ≤ 2147483647) (hJ : r_J M) : r_J (e_up M a k v) ∧ a_fr (h_wH ++ r_wq) M (e_up M a k v) := by
  refine ⟨(r_sh_up (Or.inr ha) hk hv hJ).1, fun b j hw => c_up_n (fun hc => ?_)⟩
  have hm : (a, 0, 7) ∈ h_wH := by
    rcases ha with rfl | rfl | rfl <;> decide
  exact hw _ (List.mem_append.mpr (Or.inl hm)) ⟨hc.1.symm, Nat.zero_le _, by have := hc.2; show j ≤ 7; omega⟩
theorem h_keep2 {d w p : Int} {M : EM} (hJ : r_J M) : ∃ r M', E_C 258 [192, d, w, p] M = some (r, M') ∧ ((((0 ≤ d ∧ d ≤ 7) ∧ (0 ≤ w ∧ w ≤ 1) ∧ (w = 1 → 0 ≤ p ∧ p < r_G M 1198)) ∧ r = 0 ∧ a_fr (h_wH ++ r_wq) (e_up M 195 d.toNat w) M') ∨ (¬ ((0 ≤ d ∧ d ≤ 7) ∧ (0 ≤ w ∧ w ≤ 1) ∧ (w = 1 → 0 ≤ p ∧ p < r_G M 1198)) ∧ r = -1 ∧ M' = M)) := by
  have hW := (r_J_E hJ).2.1
  have ks := r_isShelf d M
  by_cases q0 : 0 ≤ d ∧ d ≤ 7
  · rw [if_pos q0] at ks
    by_cases q1 : 0 ≤ w ∧ w ≤ 1
    · have i1 := r_in1 (M := M) q1
      obtain ⟨u1, v1⟩ := r_sh_up (a := 195) (k := d.toNat) (v := w) (Or.inl rfl) (by omega) ⟨by omega, by omega⟩ hJ
      have s1 : e_st 100 [195, d, w] M = some (e_up M 195 d.toNat w) := r_shst (a := 195) (Or.inl rfl) q0
      by_cases q2 : w = 1
      · by_cases q3 : 0 ≤ p ∧ p < r_G M 1198
        · have ip := r_ip1 hW q3
          have h40 := r_40 hW q3
          have g1 : r_G (e_up M 195 d.toNat w) = r_G M := r_up_Gne (by decide)
          obtain ⟨M2, k2, u2, v2, c2⟩ := r_gathers u1 (p := p) (by rw [g1]; exact q3)
          have g2 : r_G M2 = r_G M := (r_q_G v2).trans g1
          have kk2 : E_C 170 [192, p] M2 = some (r_G M2 (28 * p), M2) := r_kind h40
          have s2 := fun v => r_shst (a := 199) (d := d) (v := v) (M := M2) (Or.inr (Or.inl rfl)) q0
          obtain ⟨u3, v3⟩ := h_sh_up (a := 199) (k := d.toNat) (v := r_G M2 (28 * p)) (Or.inl rfl) (by omega) (r_gr u2.1 _) u2
          have g3 : r_G (e_up M2 199 d.toNat (r_G M2 (28 * p))) = r_G M := (r_up_Gne (by decide)).trans g2
          obtain ⟨c, kc, hc⟩ := r_currentOf (u := 0) (r_J_E u3) (r_J_E u3).2.1.2.1 (r_pt_of (r_J_E u3).2.1 (p := p) (by rw [g3]; exact q3))
          have s3 := fun M => r_shst (a := 201) (d := d) (v := c) (M := M) (Or.inr (Or.inr (Or.inr rfl))) q0
          obtain ⟨u4, v4⟩ := h_sh_up (a := 201) (k := d.toNat) (v := c) (Or.inr (Or.inr rfl)) (by omega) hc u3
          have g4 : r_G (e_up (e_up M2 199 d.toNat (r_G M2 (28 * p))) 201 d.toNat c) = r_G M := (r_up_Gne (by decide)).trans g3
          have hf4 : a_fr (h_wH ++ r_wq) (e_up M 195 d.toNat w) (e_up (e_up M2 199 d.toNat (r_G M2 (28 * p))) 201 d.toNat c) := a_fr_tr (c_sub_r v2) (a_fr_tr v3 v4)
          generalize hM4 : e_up (e_up M2 199 d.toNat (r_G M2 (28 * p))) 201 d.toNat c = M4 at u4 g4 hf4
          have kk4 : E_C 170 [192, p] M4 = some (r_G M (28 * p), M4) := by rw [← g4]; exact r_kind h40
          have km4 : E_C 171 [192, p] M4 = some (r_G M (28 * p + 2), M4) := by rw [← g4]; exact r_many h40
          have w9 : e_w (10 + p) = 10 + p := a_w_id (by omega) (by omega)
          have hfin : ∀ v : Int, (-2147483648 ≤ v ∧ v ≤ 2147483647) → ∃ M', E_V 258 196 [192, d, w, p] (e_up M4 200 d.toNat v) = some (0, M') ∧ r_J M' ∧ a_fr (h_wH ++ r_wq) (e_up M 195 d.toNat w) M' := by
            intro v hv
            obtain ⟨u5, v5⟩ := h_sh_up (a := 200) (k := d.toNat) (v := v) (Or.inr (Or.inl rfl)) (by omega) hv u4
            refine ⟨_, ?_, u5, a_fr_tr hf4 v5⟩
            rw [E_V_eq]
            show e_tv E_C (E_V 258) e_t258_196 [192, d, w, p] (e_up M4 200 d.toNat v) = _
            unfold e_t258_196
            simp [zq_a, zq_b, zq_c, zq_d, zq_e, zq_f, zq_g, zq_h, zq_i, zq_j, zq_k, zq_l, zq_m, zq_n, zq_o, zq_p, zq_q, zq_r, zq_s, zq_t, zq_u, zq_v, zq_w, zq_x, zq_y, zq_z, zq_A, zq_B, zq_C, zq_D, zq_E, zq_F, zq_G, zq_H, zq_I, zq_J, zq_K, zq_L, ↓zq_M, ↓zq_N, ↓zq_O, ↓zq_P, ↓zq_Q, ↓zq_R, zq_S, zq_T, zq_U, zq_V, zq_W, zq_X, zq_Y, zq_Z, zq_0, zq_1, zq_2, zq_3, zq_4, zq_5, ↓zq_6, ↓zq_7, ↓zq_8, ↓zq_9, ↓zq_aa, zq_ab, zq_ac, zq_ad, zq_ae, zq_af, zq_ag, ↓zq_ah, ↓zq_ai, ↓zq_aj, zq_ak, ↓zq_al, ↓zq_am, e_b1, e_b2, x_o1, x_o2]
          have s4 := fun v => r_shst (a := 200) (d := d) (v := v) (M := M4) (Or.inr (Or.inr (Or.inl rfl))) q0
          have hpt := r_pt_of hW q3
          have hm := hpt
          have j104 : r_G M (28 * p) = 0 → ∃ M', E_V 258 104 [192, d, w, p] M4 = some (0, M') ∧ r_J M' ∧ a_fr (h_wH ++ r_wq) (e_up M 195 d.toNat w) M' := by
            intro hk
            have hcl := r_pt_cell hpt hk
            have h1 := hcl.2.2.2.1
            have h2 := hcl.2.2.2.2.1
            have w1 : e_w (r_G M (28 * p + 2) - 1) = r_G M (28 * p + 2) - 1 := a_w_id (by omega) (by omega)
            have w2 : e_w (28 * p) = 28 * p := a_w_id (by omega) (by omega)
            have w3 : e_w (28 * p + 3) = 28 * p + 3 := a_w_id (by omega) (by omega)
            have w4 : e_w (28 * p + 3 + (r_G M (28 * p + 2) - 1)) = 28 * p + 3 + (r_G M (28 * p + 2) - 1) := a_w_id (by omega) (by omega)
            have lo : e_op 60 [193, 28 * p + 3 + (r_G M (28 * p + 2) - 1)] M4 = some (r_G M4 (28 * p + 3 + (r_G M (28 * p + 2) - 1))) := r_rd (by omega) (by omega)
            have ko : E_C 172 [192, p, r_G M (28 * p + 2) - 1] M4 = some (r_G M4 (28 * p + 3 + (r_G M (28 * p + 2) - 1)), M4) := by
              rw [r_ent (show e_rok 172 [192, p, r_G M (28 * p + 2) - 1] = true from decide_eq_true r_ref)]
              show e_tv E_C (E_V 172) e_t172_0 [192, p, r_G M (28 * p + 2) - 1] M4 = _
              unfold e_t172_0
              simp [zq_a, zq_b, zq_c, zq_d, zq_e, zq_f, zq_g, zq_h, zq_i, zq_j, zq_k, zq_l, zq_m, zq_n, zq_o, zq_p, zq_q, zq_r, zq_s, zq_t, zq_u, zq_v, zq_w, zq_x, zq_y, zq_z, zq_A, zq_B, zq_C, zq_D, zq_E, zq_F, zq_G, zq_H, zq_I, zq_J, zq_K, zq_L, ↓zq_M, ↓zq_N, ↓zq_O, ↓zq_P, ↓zq_Q, ↓zq_R, zq_S, zq_T, zq_U, zq_V, zq_W, zq_X, zq_Y, zq_Z, zq_0, zq_1, zq_2, zq_3, zq_4, zq_5, ↓zq_6, ↓zq_7, ↓zq_8, ↓zq_9, ↓zq_aa, zq_ab, zq_ac, zq_ad, zq_ae, zq_af, zq_ag, ↓zq_ah, ↓zq_ai, ↓zq_aj, zq_ak, ↓zq_al, ↓zq_am, e_b1, e_b2, x_o1, x_o2, r_O0, w2, w3, w4, lo]
            obtain ⟨M', k, t⟩ := hfin (e_w (10 + p + r_G M4 (28 * p + 3 + (r_G M (28 * p + 2) - 1)))) (a_w _)
            refine ⟨M', ?_, t⟩
            rw [E_V_eq]
            show e_tv E_C (E_V 258) e_t258_104 [192, d, w, p] M4 = _
            unfold e_t258_104
            simp [zq_a, zq_b, zq_c, zq_d, zq_e, zq_f, zq_g, zq_h, zq_i, zq_j, zq_k, zq_l, zq_m, zq_n, zq_o, zq_p, zq_q, zq_r, zq_s, zq_t, zq_u, zq_v, zq_w, zq_x, zq_y, zq_z, zq_A, zq_B, zq_C, zq_D, zq_E, zq_F, zq_G, zq_H, zq_I, zq_J, zq_K, zq_L, ↓zq_M, ↓zq_N, ↓zq_O, ↓zq_P, ↓zq_Q, ↓zq_R, zq_S, zq_T, zq_U, zq_V, zq_W, zq_X, zq_Y, zq_Z, zq_0, zq_1, zq_2, zq_3, zq_4, zq_5, ↓zq_6, ↓zq_7, ↓zq_8, ↓zq_9, ↓zq_aa, zq_ab, zq_ac, zq_ad, zq_ae, zq_af, zq_ag, ↓zq_ah, ↓zq_ai, ↓zq_aj, zq_ak, ↓zq_al, ↓zq_am, e_b1, e_b2, x_o1, x_o2, r_O7, km4, w1, ko, w9, s4, k]
          have j130 : ∃ M', E_V 258 130 [192, d, w, p] M4 = some (0, M') ∧ r_J M' ∧ a_fr (h_wH ++ r_wq) (e_up M 195 d.toNat w) M' := by
            obtain ⟨M', k, t⟩ := hfin (e_w (10 + p + e_w (10 * M4 192 13))) (a_w _)
            refine ⟨M', ?_, t⟩
            rw [E_V_eq]
            show e_tv E_C (E_V 258) e_t258_130 [192, d, w, p] M4 = _
            unfold e_t258_130
            simp [zq_a, zq_b, zq_c, zq_d, zq_e, zq_f, zq_g, zq_h, zq_i, zq_j, zq_k, zq_l, zq_m, zq_n, zq_o, zq_p, zq_q, zq_r, zq_s, zq_t, zq_u, zq_v, zq_w, zq_x, zq_y, zq_z, zq_A, zq_B, zq_C, zq_D, zq_E, zq_F, zq_G, zq_H, zq_I, zq_J, zq_K, zq_L, ↓zq_M, ↓zq_N, ↓zq_O, ↓zq_P, ↓zq_Q, ↓zq_R, zq_S, zq_T, zq_U, zq_V, zq_W, zq_X, zq_Y, zq_Z, zq_0, zq_1, zq_2, zq_3, zq_4, zq_5, ↓zq_6, ↓zq_7, ↓zq_8, ↓zq_9, ↓zq_aa, zq_ab, zq_ac, zq_ad, zq_ae, zq_af, zq_ag, ↓zq_ah, ↓zq_ai, ↓zq_aj, zq_ak, ↓zq_al, ↓zq_am, e_b1, e_b2, x_o1, x_o2, r_O7, r_F13, w9, s4, k]
          have j151 : ∃ M', E_V 258 151 [192, d, w, p] M4 = some (0, M') ∧ r_J M' ∧ a_fr (h_wH ++ r_wq) (e_up M 195 d.toNat w) M' := by
            obtain ⟨M', k, t⟩ := hfin (e_w (2 * e_w (10 + p + e_w (10 * M4 192 13)))) (a_w _)
            refine ⟨M', ?_, t⟩
            rw [E_V_eq]
            show e_tv E_C (E_V 258) e_t258_151 [192, d, w, p] M4 = _
            unfold e_t258_151
            simp [zq_a, zq_b, zq_c, zq_d, zq_e, zq_f, zq_g, zq_h, zq_i, zq_j, zq_k, zq_l, zq_m, zq_n, zq_o, zq_p, zq_q, zq_r, zq_s, zq_t, zq_u, zq_v, zq_w, zq_x, zq_y, zq_z, zq_A, zq_B, zq_C, zq_D, zq_E, zq_F, zq_G, zq_H, zq_I, zq_J, zq_K, zq_L, ↓zq_M, ↓zq_N, ↓zq_O, ↓zq_P, ↓zq_Q, ↓zq_R, zq_S, zq_T, zq_U, zq_V, zq_W, zq_X, zq_Y, zq_Z, zq_0, zq_1, zq_2, zq_3, zq_4, zq_5, ↓zq_6, ↓zq_7, ↓zq_8, ↓zq_9, ↓zq_aa, zq_ab, zq_ac, zq_ad, zq_ae, zq_af, zq_ag, ↓zq_ah, ↓zq_ai, ↓zq_aj, zq_ak, ↓zq_al, ↓zq_am, e_b1, e_b2, x_o1, x_o2, r_O7, r_F13, w9, s4, k]
          have j174 : ∃ M', E_V 258 174 [192, d, w, p] M4 = some (0, M') ∧ r_J M' ∧ a_fr (h_wH ++ r_wq) (e_up M 195 d.toNat w) M' := by
            have w2 : e_w (28 * p) = 28 * p := a_w_id (by omega) (by omega)
            have w3 : e_w (28 * p + 5) = 28 * p + 5 := a_w_id (by omega) (by omega)
            have lo : e_op 60 [193, 28 * p + 5] M4 = some (r_G M4 (28 * p + 5)) := r_rd (by omega) (by omega)
            obtain ⟨M', k, t⟩ := hfin (e_w (10 + p + r_G M4 (28 * p + 5))) (a_w _)
            refine ⟨M', ?_, t⟩
            rw [E_V_eq]
            show e_tv E_C (E_V 258) e_t258_174 [192, d, w, p] M4 = _
            unfold e_t258_174
            simp [zq_a, zq_b, zq_c, zq_d, zq_e, zq_f, zq_g, zq_h, zq_i, zq_j, zq_k, zq_l, zq_m, zq_n, zq_o, zq_p, zq_q, zq_r, zq_s, zq_t, zq_u, zq_v, zq_w, zq_x, zq_y, zq_z, zq_A, zq_B, zq_C, zq_D, zq_E, zq_F, zq_G, zq_H, zq_I, zq_J, zq_K, zq_L, ↓zq_M, ↓zq_N, ↓zq_O, ↓zq_P, ↓zq_Q, ↓zq_R, zq_S, zq_T, zq_U, zq_V, zq_W, zq_X, zq_Y, zq_Z, zq_0, zq_1, zq_2, zq_3, zq_4, zq_5, ↓zq_6, ↓zq_7, ↓zq_8, ↓zq_9, ↓zq_aa, zq_ab, zq_ac, zq_ad, zq_ae, zq_af, zq_ag, ↓zq_ah, ↓zq_ai, ↓zq_aj, zq_ak, ↓zq_al, ↓zq_am, e_b1, e_b2, x_o1, x_o2, r_O0, r_O7, w2, w3, w9, lo, s4, k]
          have hgo : ∃ l : Nat, (∃ M', E_V 258 l [192, d, w, p] M4 = some (0, M') ∧ r_J M' ∧ a_fr (h_wH ++ r_wq) (e_up M 195 d.toNat w) M') ∧ ∀ t, e_tv E_C (E_V 258) e_t258_0 [192, d, w, p] M = t ↔ E_V 258 l [192, d, w, p] M4 = t := by
            unfold e_t258_0
            subst q2
            rcases hm with h | h | h | h
            · have hk := h.2.2.1
              refine ⟨104, j104 hk, fun t => ?_⟩
              rw [hk] at kk4
              simp [zq_a, zq_b, zq_c, zq_d, zq_e, zq_f, zq_g, zq_h, zq_i, zq_j, zq_k, zq_l, zq_m, zq_n, zq_o, zq_p, zq_q, zq_r, zq_s, zq_t, zq_u, zq_v, zq_w, zq_x, zq_y, zq_z, zq_A, zq_B, zq_C, zq_D, zq_E, zq_F, zq_G, zq_H, zq_I, zq_J, zq_K, zq_L, ↓zq_M, ↓zq_N, ↓zq_O, ↓zq_P, ↓zq_Q, ↓zq_R, zq_S, zq_T, zq_U, zq_V, zq_W, zq_X, zq_Y, zq_Z, zq_0, zq_1, zq_2, zq_3, zq_4, zq_5, ↓zq_6, ↓zq_7, ↓zq_8, ↓zq_9, ↓zq_aa, zq_ab, zq_ac, zq_ad, zq_ae, zq_af, zq_ag, ↓zq_ah, ↓zq_ai, ↓zq_aj, zq_ak, ↓zq_al, ↓zq_am, e_b1, e_b2, x_o1, x_o2, e_len, e_nth, r_O2, r_O6, r_O8, ks, i1, ip, s1, k2, kk2, s2, kc, s3, hM4, kk4]
            · have hk := h.2.2.1
              refine ⟨130, j130, fun t => ?_⟩
              rw [hk] at kk4
              simp [zq_a, zq_b, zq_c, zq_d, zq_e, zq_f, zq_g, zq_h, zq_i, zq_j, zq_k, zq_l, zq_m, zq_n, zq_o, zq_p, zq_q, zq_r, zq_s, zq_t, zq_u, zq_v, zq_w, zq_x, zq_y, zq_z, zq_A, zq_B, zq_C, zq_D, zq_E, zq_F, zq_G, zq_H, zq_I, zq_J, zq_K, zq_L, ↓zq_M, ↓zq_N, ↓zq_O, ↓zq_P, ↓zq_Q, ↓zq_R, zq_S, zq_T, zq_U, zq_V, zq_W, zq_X, zq_Y, zq_Z, zq_0, zq_1, zq_2, zq_3, zq_4, zq_5, ↓zq_6, ↓zq_7, ↓zq_8, ↓zq_9, ↓zq_aa, zq_ab, zq_ac, zq_ad, zq_ae, zq_af, zq_ag, ↓zq_ah, ↓zq_ai, ↓zq_aj, zq_ak, ↓zq_al, ↓zq_am, e_b1, e_b2, x_o1, x_o2, e_len, e_nth, r_O2, r_O6, r_O8, ks, i1, ip, s1, k2, kk2, s2, kc, s3, hM4, kk4]
            · have hk := h.2.2.1
              refine ⟨151, j151, fun t => ?_⟩
              rw [hk] at kk4
              simp [zq_a, zq_b, zq_c, zq_d, zq_e, zq_f, zq_g, zq_h, zq_i, zq_j, zq_k, zq_l, zq_m, zq_n, zq_o, zq_p, zq_q, zq_r, zq_s, zq_t, zq_u, zq_v, zq_w, zq_x, zq_y, zq_z, zq_A, zq_B, zq_C, zq_D, zq_E, zq_F, zq_G, zq_H, zq_I, zq_J, zq_K, zq_L, ↓zq_M, ↓zq_N, ↓zq_O, ↓zq_P, ↓zq_Q, ↓zq_R, zq_S, zq_T, zq_U, zq_V, zq_W, zq_X, zq_Y, zq_Z, zq_0, zq_1, zq_2, zq_3, zq_4, zq_5, ↓zq_6, ↓zq_7, ↓zq_8, ↓zq_9, ↓zq_aa, zq_ab, zq_ac, zq_ad, zq_ae, zq_af, zq_ag, ↓zq_ah, ↓zq_ai, ↓zq_aj, zq_ak, ↓zq_al, ↓zq_am, e_b1, e_b2, x_o1, x_o2, e_len, e_nth, r_O2, r_O6, r_O8, ks, i1, ip, s1, k2, kk2, s2, kc, s3, hM4, kk4]
            · have hk := h.2.2.1
              refine ⟨174, j174, fun t => ?_⟩
              rw [hk] at kk4
              simp [zq_a, zq_b, zq_c, zq_d, zq_e, zq_f, zq_g, zq_h, zq_i, zq_j, zq_k, zq_l, zq_m, zq_n, zq_o, zq_p, zq_q, zq_r, zq_s, zq_t, zq_u, zq_v, zq_w, zq_x, zq_y, zq_z, zq_A, zq_B, zq_C, zq_D, zq_E, zq_F, zq_G, zq_H, zq_I, zq_J, zq_K, zq_L, ↓zq_M, ↓zq_N, ↓zq_O, ↓zq_P, ↓zq_Q, ↓zq_R, zq_S, zq_T, zq_U, zq_V, zq_W, zq_X, zq_Y, zq_Z, zq_0, zq_1, zq_2, zq_3, zq_4, zq_5, ↓zq_6, ↓zq_7, ↓zq_8, ↓zq_9, ↓zq_aa, zq_ab, zq_ac, zq_ad, zq_ae, zq_af, zq_ag, ↓zq_ah, ↓zq_ai, ↓zq_aj, zq_ak, ↓zq_al, ↓zq_am, e_b1, e_b2, x_o1, x_o2, e_len, e_nth, r_O2, r_O6, r_O8, ks, i1, ip, s1, k2, kk2, s2, kc, s3, hM4, kk4]
          obtain ⟨l, ⟨M', k, t⟩, hgo⟩ := hgo
          refine ⟨0, M', ?_, Or.inl ⟨⟨q0, q1, fun _ => q3⟩, rfl, t.2⟩⟩
          rw [r_ent (show e_rok 258 [192, d, w, p] = true from decide_eq_true r_ref)]
          show e_tv E_C (E_V 258) e_t258_0 [192, d, w, p] M = _
          unfold e_t258_0
          exact (hgo _).mpr k
        · have ip := r_ip0 hW q3
          refine ⟨-1, M, ?_, Or.inr ⟨fun e => q3 (e.2.2 q2), rfl, rfl⟩⟩
          subst q2
          rw [r_ent (show e_rok 258 [192, d, 1, p] = true from decide_eq_true r_ref)]
          show e_tv E_C (E_V 258) e_t258_0 [192, d, 1, p] M = _
          unfold e_t258_0
          simp [zq_a, zq_b, zq_c, zq_d, zq_e, zq_f, zq_g, zq_h, zq_i, zq_j, zq_k, zq_l, zq_m, zq_n, zq_o, zq_p, zq_q, zq_r, zq_s, zq_t, zq_u, zq_v, zq_w, zq_x, zq_y, zq_z, zq_A, zq_B, zq_C, zq_D, zq_E, zq_F, zq_G, zq_H, zq_I, zq_J, zq_K, zq_L, ↓zq_M, ↓zq_N, ↓zq_O, ↓zq_P, ↓zq_Q, ↓zq_R, zq_S, zq_T, zq_U, zq_V, zq_W, zq_X, zq_Y, zq_Z, zq_0, zq_1, zq_2, zq_3, zq_4, zq_5, ↓zq_6, ↓zq_7, ↓zq_8, ↓zq_9, ↓zq_aa, zq_ab, zq_ac, zq_ad, zq_ae, zq_af, zq_ag, ↓zq_ah, ↓zq_ai, ↓zq_aj, zq_ak, ↓zq_al, ↓zq_am, e_b1, e_b2, x_o1, x_o2, ks, i1, ip]
      · have q2' : w = 0 := by omega
        refine ⟨0, _, ?_, Or.inl ⟨⟨q0, q1, fun e => absurd e q2⟩, rfl, a_fr_rf⟩⟩
        subst q2'
        rw [r_ent (show e_rok 258 [192, d, 0, p] = true from decide_eq_true r_ref)]
        show e_tv E_C (E_V 258) e_t258_0 [192, d, 0, p] M = _
        unfold e_t258_0
        simp [zq_a, zq_b, zq_c, zq_d, zq_e, zq_f, zq_g, zq_h, zq_i, zq_j, zq_k, zq_l, zq_m, zq_n, zq_o, zq_p, zq_q, zq_r, zq_s, zq_t, zq_u, zq_v, zq_w, zq_x, zq_y, zq_z, zq_A, zq_B, zq_C, zq_D, zq_E, zq_F, zq_G, zq_H, zq_I, zq_J, zq_K, zq_L, ↓zq_M, ↓zq_N, ↓zq_O, ↓zq_P, ↓zq_Q, ↓zq_R, zq_S, zq_T, zq_U, zq_V, zq_W, zq_X, zq_Y, zq_Z, zq_0, zq_1, zq_2, zq_3, zq_4, zq_5, ↓zq_6, ↓zq_7, ↓zq_8, ↓zq_9, ↓zq_aa, zq_ab, zq_ac, zq_ad, zq_ae, zq_af, zq_ag, ↓zq_ah, ↓zq_ai, ↓zq_aj, zq_ak, ↓zq_al, ↓zq_am, e_b1, e_b2, x_o1, x_o2, r_O2, ks, i1, s1]
    · have i1 := r_in0 (M := M) q1
      refine ⟨-1, M, ?_, Or.inr ⟨fun e => q1 e.2.1, rfl, rfl⟩⟩
      rw [r_ent (show e_rok 258 [192, d, w, p] = true from decide_eq_true r_ref)]
      show e_tv E_C (E_V 258) e_t258_0 [192, d, w, p] M = _
      unfold e_t258_0
      simp [zq_a, zq_b, zq_c, zq_d, zq_e, zq_f, zq_g, zq_h, zq_i, zq_j, zq_k, zq_l, zq_m, zq_n, zq_o, zq_p, zq_q, zq_r, zq_s, zq_t, zq_u, zq_v, zq_w, zq_x, zq_y, zq_z, zq_A, zq_B, zq_C, zq_D, zq_E, zq_F, zq_G, zq_H, zq_I, zq_J, zq_K, zq_L, ↓zq_M, ↓zq_N, ↓zq_O, ↓zq_P, ↓zq_Q, ↓zq_R, zq_S, zq_T, zq_U, zq_V, zq_W, zq_X, zq_Y, zq_Z, zq_0, zq_1, zq_2, zq_3, zq_4, zq_5, ↓zq_6, ↓zq_7, ↓zq_8, ↓zq_9, ↓zq_aa, zq_ab, zq_ac, zq_ad, zq_ae, zq_af, zq_ag, ↓zq_ah, ↓zq_ai, ↓zq_aj, zq_ak, ↓zq_al, ↓zq_am, e_b1, e_b2, x_o1, x_o2, ks, i1]
  · rw [if_neg q0] at ks
    refine ⟨-1, M, ?_, Or.inr ⟨fun e => q0 e.1, rfl, rfl⟩⟩
    rw [r_ent (show e_rok 258 [192, d, w, p] = true from decide_eq_true r_ref)]
    show e_tv E_C (E_V 258) e_t258_0 [192, d, w, p] M = _
    unfold e_t258_0
    simp [zq_a, zq_b, zq_c, zq_d, zq_e, zq_f, zq_g, zq_h, zq_i, zq_j, zq_k, zq_l, zq_m, zq_n, zq_o, zq_p, zq_q, zq_r, zq_s, zq_t, zq_u, zq_v, zq_w, zq_x, zq_y, zq_z, zq_A, zq_B, zq_C, zq_D, zq_E, zq_F, zq_G, zq_H, zq_I, zq_J, zq_K, zq_L, ↓zq_M, ↓zq_N, ↓zq_O, ↓zq_P, ↓zq_Q, ↓zq_R, zq_S, zq_T, zq_U, zq_V, zq_W, zq_X, zq_Y, zq_Z, zq_0, zq_1, zq_2, zq_3, zq_4, zq_5, ↓zq_6, ↓zq_7, ↓zq_8, ↓zq_9, ↓zq_aa, zq_ab, zq_ac, zq_ad, zq_ae, zq_af, zq_ag, ↓zq_ah, ↓zq_ai, ↓zq_aj, zq_ak, ↓zq_al, ↓zq_am, e_b1, e_b2, x_o1, x_o2, ks]
def h_wb : AW := [(170, 0, 7), (171, 0, 6), (172, 0, 39), (173, 0, 39), (174, 0, 39), (175, 0, 159), (176, 0, 39), (177, 0, 239), (178, 0, 239), (179, 0, 4039), (180, 0, 99), (181, 0, 999)]
def h_x165 : List AV := [a_r [8], a_i (-2147483648) 2147483647]
set_option maxRecDepth 100000 in
theorem h_c165 : (a_rok 165 h_x165 && a_an h_wb (a_orc h_wb) 60 165 [] (a_ent 165 h_x165) (.mulL 4 (.num 0))) = true := by decide +kernel
set_option maxRecDepth 100000 in
theorem h_c166 : (a_rok 166 h_x165 && a_an h_wb (a_orc h_wb) 60 166 [] (a_ent 166 h_x165) (.mulL 4 (.num 0))) = true := by decide +kernel
end
section
/-! keep: the two answers, and SHELVES stay related -/
theorem h_149 {k : Int} {M : EM} : E_C 149 [8, k] M = some (if 0 ≤ k ∧ k < M 10 0 then 1 else 0, M) := by
  have s0 : E_C 149 [8, k] M = e_tv E_C (E_V 149) e_t149_0 [8, k] M := r_ent (u := 149) (as := [8, k]) (M := M) (decide_eq_true c_this)
  rw [s0]
  unfold e_t149_0
  have f := w_P0 M
  generalize M 10 0 = c at f ⊢
  rcases x_le 0 k with ⟨q, q_n⟩ | ⟨q, q_n⟩
  · rcases x_lt k c with ⟨q1, q1_n⟩ | ⟨q1, q1_n⟩
    · rw [if_pos ⟨q, q1⟩]
      simp [zq_a, zq_b, zq_c, zq_d, zq_e, zq_f, zq_g, zq_h, zq_i, zq_j, zq_k, zq_l, zq_m, zq_n, zq_o, zq_p, zq_q, zq_r, zq_s, zq_t, zq_u, zq_v, zq_w, zq_x, zq_y, zq_z, zq_A, zq_B, zq_C, zq_D, zq_E, zq_F, zq_G, zq_H, zq_I, zq_J, zq_K, zq_L, ↓zq_M, ↓zq_N, ↓zq_O, ↓zq_P, ↓zq_Q, ↓zq_R, zq_S, zq_T, zq_U, zq_V, zq_W, zq_X, zq_Y, zq_Z, zq_0, zq_1, zq_2, zq_3, zq_4, zq_5, ↓zq_6, ↓zq_7, ↓zq_8, ↓zq_9, ↓zq_aa, zq_ab, zq_ac, zq_ad, zq_ae, zq_af, zq_ag, ↓zq_ah, ↓zq_ai, ↓zq_aj, zq_ak, ↓zq_al, ↓zq_am, e_b1, e_b2, x_o1, x_o2, p_704, w_H0, f, q, q_n, q1, q1_n]
    · rw [if_neg (fun e => q1 e.2)]
      simp [zq_a, zq_b, zq_c, zq_d, zq_e, zq_f, zq_g, zq_h, zq_i, zq_j, zq_k, zq_l, zq_m, zq_n, zq_o, zq_p, zq_q, zq_r, zq_s, zq_t, zq_u, zq_v, zq_w, zq_x, zq_y, zq_z, zq_A, zq_B, zq_C, zq_D, zq_E, zq_F, zq_G, zq_H, zq_I, zq_J, zq_K, zq_L, ↓zq_M, ↓zq_N, ↓zq_O, ↓zq_P, ↓zq_Q, ↓zq_R, zq_S, zq_T, zq_U, zq_V, zq_W, zq_X, zq_Y, zq_Z, zq_0, zq_1, zq_2, zq_3, zq_4, zq_5, ↓zq_6, ↓zq_7, ↓zq_8, ↓zq_9, ↓zq_aa, zq_ab, zq_ac, zq_ad, zq_ae, zq_af, zq_ag, ↓zq_ah, ↓zq_ai, ↓zq_aj, zq_ak, ↓zq_al, ↓zq_am, e_b1, e_b2, x_o1, x_o2, p_704, w_H0, f, q, q_n, q1, q1_n]
  · rw [if_neg (fun e => q e.1)]
    simp [zq_a, zq_b, zq_c, zq_d, zq_e, zq_f, zq_g, zq_h, zq_i, zq_j, zq_k, zq_l, zq_m, zq_n, zq_o, zq_p, zq_q, zq_r, zq_s, zq_t, zq_u, zq_v, zq_w, zq_x, zq_y, zq_z, zq_A, zq_B, zq_C, zq_D, zq_E, zq_F, zq_G, zq_H, zq_I, zq_J, zq_K, zq_L, ↓zq_M, ↓zq_N, ↓zq_O, ↓zq_P, ↓zq_Q, ↓zq_R, zq_S, zq_T, zq_U, zq_V, zq_W, zq_X, zq_Y, zq_Z, zq_0, zq_1, zq_2, zq_3, zq_4, zq_5, ↓zq_6, ↓zq_7, ↓zq_8, ↓zq_9, ↓zq_aa, zq_ab, zq_ac, zq_ad, zq_ae, zq_af, zq_ag, ↓zq_ah, ↓zq_ai, ↓zq_aj, zq_ak, ↓zq_al, ↓zq_am, e_b1, e_b2, x_o1, x_o2, p_704, w_H0, f, q, q_n]
theorem h_85 {h : Int} (hh : h ∈ a_SH) (M : EM) : E_C 85 [h] M = some (0, e_up (e_up M h.toNat 0 0) h.toNat 1 0) := by
  obtain ⟨s1, -⟩ := w_sh hh
  have p0 : ∀ v M, e_pf 512 [h, v] M = some (e_up M h.toNat 0 v) := fun v M => c_pf s1 (by decide +kernel)
  have p1 : ∀ v M, e_pf 513 [h, v] M = some (e_up M h.toNat 1 v) := fun v M => c_pf s1 (by decide +kernel)
  rw [r_ent (show e_rok 85 [h] = true from decide_eq_true s1)]
  show e_tv E_C (E_V 85) e_t85_0 [h] M = _
  unfold e_t85_0
  simp [zq_a, zq_b, zq_c, zq_d, zq_e, zq_f, zq_g, zq_h, zq_i, zq_j, zq_k, zq_l, zq_m, zq_n, zq_o, zq_p, zq_q, zq_r, zq_s, zq_t, zq_u, zq_v, zq_w, zq_x, zq_y, zq_z, zq_A, zq_B, zq_C, zq_D, zq_E, zq_F, zq_G, zq_H, zq_I, zq_J, zq_K, zq_L, ↓zq_M, ↓zq_N, ↓zq_O, ↓zq_P, ↓zq_Q, ↓zq_R, zq_S, zq_T, zq_U, zq_V, zq_W, zq_X, zq_Y, zq_Z, zq_0, zq_1, zq_2, zq_3, zq_4, zq_5, ↓zq_6, ↓zq_7, ↓zq_8, ↓zq_9, ↓zq_aa, zq_ab, zq_ac, zq_ad, zq_ae, zq_af, zq_ag, ↓zq_ah, ↓zq_ai, ↓zq_aj, zq_ak, ↓zq_al, ↓zq_am, e_b1, e_b2, x_o1, x_o2, p0, p1]
theorem h_86 {h a c : Int} (hh : h ∈ a_SH) (M : EM) : E_C 86 [h, a, c] M = some (0, e_up (e_up (e_up (e_up M h.toNat 0 1) h.toNat 1 0) h.toNat 2 a) h.toNat 3 c) := by
  obtain ⟨s1, -⟩ := w_sh hh
  have p0 : ∀ v M, e_pf 512 [h, v] M = some (e_up M h.toNat 0 v) := fun v M => c_pf s1 (by decide +kernel)
  have p1 : ∀ v M, e_pf 513 [h, v] M = some (e_up M h.toNat 1 v) := fun v M => c_pf s1 (by decide +kernel)
  have p2 : ∀ v M, e_pf 514 [h, v] M = some (e_up M h.toNat 2 v) := fun v M => c_pf s1 (by decide +kernel)
  have p3 : ∀ v M, e_pf 515 [h, v] M = some (e_up M h.toNat 3 v) := fun v M => c_pf s1 (by decide +kernel)
  rw [r_ent (show e_rok 86 [h, a, c] = true from decide_eq_true s1)]
  show e_tv E_C (E_V 86) e_t86_0 [h, a, c] M = _
  unfold e_t86_0
  simp [zq_a, zq_b, zq_c, zq_d, zq_e, zq_f, zq_g, zq_h, zq_i, zq_j, zq_k, zq_l, zq_m, zq_n, zq_o, zq_p, zq_q, zq_r, zq_s, zq_t, zq_u, zq_v, zq_w, zq_x, zq_y, zq_z, zq_A, zq_B, zq_C, zq_D, zq_E, zq_F, zq_G, zq_H, zq_I, zq_J, zq_K, zq_L, ↓zq_M, ↓zq_N, ↓zq_O, ↓zq_P, ↓zq_Q, ↓zq_R, zq_S, zq_T, zq_U, zq_V, zq_W, zq_X, zq_Y, zq_Z, zq_0, zq_1, zq_2, zq_3, zq_4, zq_5, ↓zq_6, ↓zq_7, ↓zq_8, ↓zq_9, ↓zq_aa, zq_ab, zq_ac, zq_ad, zq_ae, zq_af, zq_ag, ↓zq_ah, ↓zq_ai, ↓zq_aj, zq_ak, ↓zq_al, ↓zq_am, e_b1, e_b2, x_o1, x_o2, p0, p1, p2, p3]
theorem h_139n {d w k x t : Int} {M : EM} (c0 : E_C 154 [8, d] M = some (x, M)) (c1 : E_C 149 [8, k] M = some (t, M)) (h : x = -1 ∨ ¬ (0 ≤ w ∧ w ≤ 1) ∨ (w = 1 ∧ t = 0)) : E_C 139 [8, d, w, k] M = some (-1, M) := by
  have s0 : E_C 139 [8, d, w, k] M = e_tv E_C (E_V 139) e_t139_0 [8, d, w, k, 0] M := r_ent (u := 139) (as := [8, d, w, k]) (M := M) (decide_eq_true c_this)
  rw [s0]
  unfold e_t139_0
  by_cases q0 : x = -1
  · simp [zq_a, zq_b, zq_c, zq_d, zq_e, zq_f, zq_g, zq_h, zq_i, zq_j, zq_k, zq_l, zq_m, zq_n, zq_o, zq_p, zq_q, zq_r, zq_s, zq_t, zq_u, zq_v, zq_w, zq_x, zq_y, zq_z, zq_A, zq_B, zq_C, zq_D, zq_E, zq_F, zq_G, zq_H, zq_I, zq_J, zq_K, zq_L, ↓zq_M, ↓zq_N, ↓zq_O, ↓zq_P, ↓zq_Q, ↓zq_R, zq_S, zq_T, zq_U, zq_V, zq_W, zq_X, zq_Y, zq_Z, zq_0, zq_1, zq_2, zq_3, zq_4, zq_5, ↓zq_6, ↓zq_7, ↓zq_8, ↓zq_9, ↓zq_aa, zq_ab, zq_ac, zq_ad, zq_ae, zq_af, zq_ag, ↓zq_ah, ↓zq_ai, ↓zq_aj, zq_ak, ↓zq_al, ↓zq_am, e_b1, e_b2, x_o1, x_o2, c0, q0]
  · rcases x_le 0 w with ⟨q1, q1_n⟩ | ⟨q1, q1_n⟩
    · rcases x_le w 1 with ⟨q2, q2_n⟩ | ⟨q2, q2_n⟩
      · have q3 : w = 1 ∧ t = 0 := by
          rcases h with h | h | h
          · exact absurd h q0
          · exact absurd ⟨q1, q2⟩ h
          · exact h
        obtain ⟨rfl, rfl⟩ := q3
        simp [zq_a, zq_b, zq_c, zq_d, zq_e, zq_f, zq_g, zq_h, zq_i, zq_j, zq_k, zq_l, zq_m, zq_n, zq_o, zq_p, zq_q, zq_r, zq_s, zq_t, zq_u, zq_v, zq_w, zq_x, zq_y, zq_z, zq_A, zq_B, zq_C, zq_D, zq_E, zq_F, zq_G, zq_H, zq_I, zq_J, zq_K, zq_L, ↓zq_M, ↓zq_N, ↓zq_O, ↓zq_P, ↓zq_Q, ↓zq_R, zq_S, zq_T, zq_U, zq_V, zq_W, zq_X, zq_Y, zq_Z, zq_0, zq_1, zq_2, zq_3, zq_4, zq_5, ↓zq_6, ↓zq_7, ↓zq_8, ↓zq_9, ↓zq_aa, zq_ab, zq_ac, zq_ad, zq_ae, zq_af, zq_ag, ↓zq_ah, ↓zq_ai, ↓zq_aj, zq_ak, ↓zq_al, ↓zq_am, e_b1, e_b2, x_o1, x_o2, c0, q0, c1]
      · simp [zq_a, zq_b, zq_c, zq_d, zq_e, zq_f, zq_g, zq_h, zq_i, zq_j, zq_k, zq_l, zq_m, zq_n, zq_o, zq_p, zq_q, zq_r, zq_s, zq_t, zq_u, zq_v, zq_w, zq_x, zq_y, zq_z, zq_A, zq_B, zq_C, zq_D, zq_E, zq_F, zq_G, zq_H, zq_I, zq_J, zq_K, zq_L, ↓zq_M, ↓zq_N, ↓zq_O, ↓zq_P, ↓zq_Q, ↓zq_R, zq_S, zq_T, zq_U, zq_V, zq_W, zq_X, zq_Y, zq_Z, zq_0, zq_1, zq_2, zq_3, zq_4, zq_5, ↓zq_6, ↓zq_7, ↓zq_8, ↓zq_9, ↓zq_aa, zq_ab, zq_ac, zq_ad, zq_ae, zq_af, zq_ag, ↓zq_ah, ↓zq_ai, ↓zq_aj, zq_ak, ↓zq_al, ↓zq_am, e_b1, e_b2, x_o1, x_o2, c0, q0, q1, q1_n, q2, q2_n]
    · simp [zq_a, zq_b, zq_c, zq_d, zq_e, zq_f, zq_g, zq_h, zq_i, zq_j, zq_k, zq_l, zq_m, zq_n, zq_o, zq_p, zq_q, zq_r, zq_s, zq_t, zq_u, zq_v, zq_w, zq_x, zq_y, zq_z, zq_A, zq_B, zq_C, zq_D, zq_E, zq_F, zq_G, zq_H, zq_I, zq_J, zq_K, zq_L, ↓zq_M, ↓zq_N, ↓zq_O, ↓zq_P, ↓zq_Q, ↓zq_R, zq_S, zq_T, zq_U, zq_V, zq_W, zq_X, zq_Y, zq_Z, zq_0, zq_1, zq_2, zq_3, zq_4, zq_5, ↓zq_6, ↓zq_7, ↓zq_8, ↓zq_9, ↓zq_aa, zq_ab, zq_ac, zq_ad, zq_ae, zq_af, zq_ag, ↓zq_ah, ↓zq_ai, ↓zq_aj, zq_ak, ↓zq_al, ↓zq_am, e_b1, e_b2, x_o1, x_o2, c0, q0, q1, q1_n]
theorem h_63 {l : List Int} {M : EM} : E_V 139 63 l M = some (0, M) := by
  rw [E_V_eq]
  show e_tv E_C (E_V 139) e_t139_63 l M = _
  unfold e_t139_63
  simp [zq_a, zq_b, zq_c, zq_d, zq_e, zq_f, zq_g, zq_h, zq_i, zq_j, zq_k, zq_l, zq_m, zq_n, zq_o, zq_p, zq_q, zq_r, zq_s, zq_t, zq_u, zq_v, zq_w, zq_x, zq_y, zq_z, zq_A, zq_B, zq_C, zq_D, zq_E, zq_F, zq_G, zq_H, zq_I, zq_J, zq_K, zq_L, ↓zq_M, ↓zq_N, ↓zq_O, ↓zq_P, ↓zq_Q, ↓zq_R, zq_S, zq_T, zq_U, zq_V, zq_W, zq_X, zq_Y, zq_Z, zq_0, zq_1, zq_2, zq_3, zq_4, zq_5, ↓zq_6, ↓zq_7, ↓zq_8, ↓zq_9, ↓zq_aa, zq_ab, zq_ac, zq_ad, zq_ae, zq_af, zq_ag, ↓zq_ah, ↓zq_ai, ↓zq_aj, zq_ak, ↓zq_al, ↓zq_am, e_b1, e_b2, x_o1, x_o2]
theorem h_139a {d k x r : Int} {M M1 : EM} (c0 : E_C 154 [8, d] M = some (x, M)) (hx : x ≠ -1) (c1 : E_C 85 [x] M = some (r, M1)) : E_C 139 [8, d, 0, k] M = some (0, M1) := by
  have s0 : E_C 139 [8, d, 0, k] M = e_tv E_C (E_V 139) e_t139_0 [8, d, 0, k, 0] M := r_ent (u := 139) (as := [8, d, 0, k]) (M := M) (decide_eq_true c_this)
  rw [s0]
  unfold e_t139_0
  simp [zq_a, zq_b, zq_c, zq_d, zq_e, zq_f, zq_g, zq_h, zq_i, zq_j, zq_k, zq_l, zq_m, zq_n, zq_o, zq_p, zq_q, zq_r, zq_s, zq_t, zq_u, zq_v, zq_w, zq_x, zq_y, zq_z, zq_A, zq_B, zq_C, zq_D, zq_E, zq_F, zq_G, zq_H, zq_I, zq_J, zq_K, zq_L, ↓zq_M, ↓zq_N, ↓zq_O, ↓zq_P, ↓zq_Q, ↓zq_R, zq_S, zq_T, zq_U, zq_V, zq_W, zq_X, zq_Y, zq_Z, zq_0, zq_1, zq_2, zq_3, zq_4, zq_5, ↓zq_6, ↓zq_7, ↓zq_8, ↓zq_9, ↓zq_aa, zq_ab, zq_ac, zq_ad, zq_ae, zq_af, zq_ag, ↓zq_ah, ↓zq_ai, ↓zq_aj, zq_ak, ↓zq_al, ↓zq_am, e_b1, e_b2, x_o1, x_o2, c0, hx, c1, h_63]
theorem h_139b {d k x a c r : Int} {M Ma Mb M1 : EM} (c0 : E_C 154 [8, d] M = some (x, M)) (hx : x ≠ -1) (c1 : E_C 149 [8, k] M = some (1, M)) (c2 : E_C 165 [8, k] M = some (a, Ma)) (c3 : E_C 166 [8, k] Ma = some (c, Mb)) (c4 : E_C 86 [x, a, c] Mb = some (r, M1)) : E_C 139 [8, d, 1, k] M = some (0, M1) := by
  have s0 : E_C 139 [8, d, 1, k] M = e_tv E_C (E_V 139) e_t139_0 [8, d, 1, k, 0] M := r_ent (u := 139) (as := [8, d, 1, k]) (M := M) (decide_eq_true c_this)
  rw [s0]
  unfold e_t139_0
  simp [zq_a, zq_b, zq_c, zq_d, zq_e, zq_f, zq_g, zq_h, zq_i, zq_j, zq_k, zq_l, zq_m, zq_n, zq_o, zq_p, zq_q, zq_r, zq_s, zq_t, zq_u, zq_v, zq_w, zq_x, zq_y, zq_z, zq_A, zq_B, zq_C, zq_D, zq_E, zq_F, zq_G, zq_H, zq_I, zq_J, zq_K, zq_L, ↓zq_M, ↓zq_N, ↓zq_O, ↓zq_P, ↓zq_Q, ↓zq_R, zq_S, zq_T, zq_U, zq_V, zq_W, zq_X, zq_Y, zq_Z, zq_0, zq_1, zq_2, zq_3, zq_4, zq_5, ↓zq_6, ↓zq_7, ↓zq_8, ↓zq_9, ↓zq_aa, zq_ab, zq_ac, zq_ad, zq_ae, zq_af, zq_ag, ↓zq_ah, ↓zq_ai, ↓zq_aj, zq_ak, ↓zq_al, ↓zq_am, e_b1, e_b2, x_o1, x_o2, c0, hx, c1, c2, c3, c4, h_63]
theorem h_wb_out {M M' : EM} (h : a_fr h_wb M M') {id k : Nat} (hi : id < 170 ∨ 181 < id) : M' id k = M id k := h id k (fun w hw hc => by
  have key : ∀ w ∈ h_wb, 170 ≤ w.1 ∧ w.1 ≤ 181 := by decide
  have := key w hw
  omega)
theorem h_wH_out {M M' : EM} (h : a_fr (h_wH ++ r_wq) M M') {id k : Nat} (hi : id < 192 ∨ 193 ≤ id ∧ id ≤ 198) : M' id k = M id k := h id k (fun w hw hc => by
  have key : ∀ w ∈ h_wH ++ r_wq, w.1 = 192 ∨ 199 ≤ w.1 := by decide
  have := key w hw
  omega)
theorem h_kept {d w k r1 r2 : Int} {M M1 M2 : EM} (hJ : r_J M) (J1 : r_J M1) (hB : h_B M 0 (r_G M)) (hS : h_S M) (hk : -2147483648 ≤ k ∧ k ≤ 2147483647) (hfr : ∀ i, M1 193 i = M 193 i) (k1 : E_C 139 [8, d, w, k] M = some (r1, M1)) (k2 : E_C 258 [192, d, w, k] M1 = some (r2, M2)) : r1 = r2 ∧ h_S M2 := by
  have eG1 : r_G M1 = r_G M := funext fun i => hfr _
  obtain ⟨r, M2', c1, c2⟩ := h_keep2 (d := d) (w := w) (p := k) J1
  have e3 := Prod.mk.inj (Option.some.inj (k2.symm.trans c1))
  obtain ⟨e3, e4⟩ := e3
  subst e3
  subst e4
  rw [eG1] at c2
  have ip := h_149 (k := k) (M := M)
  have h10 := hB.1
  rw [h10] at ip
  rcases c2 with ⟨⟨q0, q1, q2⟩, e, f⟩ | ⟨q, e, f⟩
  · obtain ⟨m, hm⟩ : ∃ m : Nat, d = m := ⟨d.toNat, by omega⟩
    have m8 : m < 8 := by omega
    have hh := (h_gr145 m8).2
    have c0 : E_C 154 [8, d] M = some (((146 + 2 * m : Nat) : Int), M) := by
      rw [hm]
      exact h_154a (by omega) (by omega) (h_rd145 m8 M)
    have hs : ((146 + 2 * m : Nat) : Int) ≠ -1 := by omega
    have em : d.toNat = m := by omega
    rw [em] at f
    -- what the class leaves
    have cl : r1 = 0 ∧ M1 (146 + 2 * m) 0 = w ∧ M1 (146 + 2 * m) 1 = 0 ∧ ∀ id j, ¬ (id = 146 + 2 * m ∧ j ≤ 3) → id < 170 ∨ 181 < id → M1 id j = M id j := by
      by_cases c : w = 1
      · subst c
        rw [if_pos (q2 rfl)] at ip
        obtain ⟨a, Ma, a1, -, a2, a3⟩ := a_entry h_c165 (as := [8, k]) (M := M) ⟨List.mem_cons_self, a_gi hk.1 hk.2, trivial⟩ hJ.1
        obtain ⟨c, Mb, b1, -, b2, b3⟩ := a_entry h_c166 (as := [8, k]) (M := Ma) ⟨List.mem_cons_self, a_gi hk.1 hk.2, trivial⟩ a2
        have e1 := Prod.mk.inj (Option.some.inj (k1.symm.trans (h_139b c0 hs ip a1 b1 (h_86 hh Mb))))
        obtain ⟨e1, e2⟩ := e1
        rw [Int.toNat_natCast] at e2
        refine ⟨e1, ?_, ?_, fun id j h h' => ?_⟩
        · rw [e2, c_up_n (by omega), c_up_n (by omega), c_up_n (by omega), c_up_s]
        · rw [e2, c_up_n (by omega), c_up_n (by omega), c_up_s]
        · rw [e2, c_up_n (by omega), c_up_n (by omega), c_up_n (by omega), c_up_n (by omega), h_wb_out b3 h', h_wb_out a3 h']
      · have w0 : w = 0 := by omega
        subst w0
        have e1 := Prod.mk.inj (Option.some.inj (k1.symm.trans (h_139a c0 hs (h_85 hh M))))
        obtain ⟨e1, e2⟩ := e1
        rw [Int.toNat_natCast] at e2
        refine ⟨e1, ?_, ?_, fun id j h h' => ?_⟩
        · rw [e2, c_up_n (by omega), c_up_s]
        · rw [e2, c_up_s]
        · rw [e2, c_up_n (by omega), c_up_n (by omega)]
    obtain ⟨l1, l2, l3, l4⟩ := cl
    have z : ∀ id j, id < 192 ∨ 196 ≤ id ∧ id ≤ 198 → M2 id j = M1 id j := fun id j h => by
      rw [h_wH_out f (by omega)]
      exact c_up_n (by omega)
    have zk : M2 195 m = w := by
      rw [h_wH_out f (by omega)]
      exact c_up_s
    have zk2 : ∀ j, j ≠ m → M2 195 j = M 195 j := fun j hj => by
      rw [h_wH_out f (by omega), c_up_n (by omega)]
      exact l4 _ _ (by omega) (by omega)
    refine ⟨l1.trans e.symm, h_S_set (m := m) hS ?_ (fun d' hd' hne => ?_)⟩
    · by_cases c : w = 1
      · exact Or.inr (Or.inl ⟨zk.trans c, (z _ _ (by omega)).trans (l2.trans c), (z _ _ (by omega)).trans l3⟩)
      · have w0 : w = 0 := by omega
        exact Or.inl ⟨zk.trans w0, (z _ _ (by omega)).trans (l2.trans w0), (z _ _ (by omega)).trans l3⟩
    · have zz : ∀ id j, (id = 146 + 2 * d' ∨ id = 147 + 2 * d' ∨ 196 ≤ id ∧ id ≤ 198) → M2 id j = M id j := fun id j h => (z id j (by omega)).trans (l4 id j (by omega) (by omega))
      exact ⟨zk2 d' hne, zz _ _ (by omega), zz _ _ (by omega), zz _ _ (by omega), zz _ _ (by omega), zz _ _ (by omega), zz _ _ (by omega), fun i hi => ⟨zz _ _ (by omega), zz _ _ (by omega)⟩⟩
  · have e1 : r1 = -1 ∧ M1 = M := by
      by_cases hd : 0 ≤ d ∧ d < 8
      · obtain ⟨m, hm⟩ : ∃ m : Nat, d = m := ⟨d.toNat, by omega⟩
        have c0 : E_C 154 [8, d] M = some (((146 + 2 * m : Nat) : Int), M) := by
          rw [hm]
          exact h_154a (by omega) (by omega) (h_rd145 (by omega) M)
        refine Prod.mk.inj (Option.some.inj (k1.symm.trans (h_139n c0 ip ?_)))
        by_cases c : 0 ≤ w ∧ w ≤ 1
        · refine Or.inr (Or.inr ?_)
          by_cases c1 : w = 1
          · refine ⟨c1, if_neg (fun e => q ⟨by omega, c, fun _ => e⟩)⟩
          · exact absurd ⟨⟨hd.1, by omega⟩, c, fun e => absurd e c1⟩ q
        · exact Or.inr (Or.inl c)
      · exact Prod.mk.inj (Option.some.inj (k1.symm.trans (h_139n (h_154n hd) ip (Or.inl rfl))))
    rw [e1.1, e, f, e1.2]
    exact ⟨rfl, hS⟩
end
