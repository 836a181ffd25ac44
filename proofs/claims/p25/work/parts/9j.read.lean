/-! the reading of a TEXT by the reference: it comes to an end -/
def r_N99 (M : EM) : Prop := 0 ≤ M 192 18 ∧ M 192 18 ≤ 99
def r_ty (M : EM) : Prop := a_M M ∧ 0 ≤ M 192 15 ∧ M 192 15 ≤ 1000 ∧ 0 ≤ M 192 16 ∧ M 192 16 ≤ 840 ∧ M 192 17 ≤ 120
def r_tt (M M' : EM) : Prop := a_M M' ∧ (∀ id k, ¬ (id = 192 ∧ (k = 15 ∨ k = 18)) → M' id k = M id k) ∧ M 192 15 ≤ M' 192 15 ∧ (M' 192 15 ≤ M 192 15 ∨ M' 192 15 ≤ M 192 17) ∧ (r_N99 M → r_N99 M')
theorem r_tt_rf {M : EM} (hM : a_M M) : r_tt M M := ⟨hM, fun _ _ _ => rfl, Int.le_refl _, Or.inl (Int.le_refl _), id⟩
theorem r_tt_tr {M M1 M2 : EM} (h : r_tt M M1) (k : r_tt M1 M2) : r_tt M M2 := by
  obtain ⟨a1, a2, a3, a4, a5⟩ := h
  obtain ⟨b1, b2, b3, b4, b5⟩ := k
  have e := a2 192 17 (by omega)
  refine ⟨b1, fun id k hk => (b2 id k hk).trans (a2 id k hk), by omega, by omega, fun h => b5 (a5 h)⟩
theorem r_tt_ty {M M' : EM} (h : r_ty M) (k : r_tt M M') : r_ty M' := by
  obtain ⟨t1, t2, t3, t4, t5, t6⟩ := h
  obtain ⟨a1, a2, a3, a4, a5⟩ := k
  have e6 := a2 192 16 (by omega)
  have e7 := a2 192 17 (by omega)
  exact ⟨a1, by omega, by omega, by omega, by omega, by omega⟩
theorem r_tt_17 {M M' : EM} (k : r_tt M M') : M' 192 17 = M 192 17 := k.2.1 192 17 (by omega)
def r_sg (M : EM) : Int := if M 192 15 < M 192 17 then M 198 (M 192 16 + M 192 15).toNat else -1000
theorem r_sign {M : EM} (h : r_ty M) : E_C 177 [192] M = some (r_sg M, M) := by
  obtain ⟨t1, t2, t3, t4, t5, t6⟩ := h
  unfold r_sg
  rcases x_lt (M 192 15) (M 192 17) with ⟨c, c_n⟩ | ⟨c, c_n⟩
  · have w1 : e_w (M 192 16 + M 192 15) = M 192 16 + M 192 15 := a_w_id (by omega) (by omega)
    have le := r_rdE (i := M 192 16 + M 192 15) (M := M) (by omega) (by omega)
    rw [r_ent (show e_rok 177 [192] = true from decide_eq_true r_ref)]
    show e_tv E_C (E_V 177) e_t177_0 [192] M = _
    unfold e_t177_0
    simp [zq_a, zq_b, zq_c, zq_d, zq_e, zq_f, zq_g, zq_h, zq_i, zq_j, zq_k, zq_l, zq_m, zq_n, zq_o, zq_p, zq_q, zq_r, zq_s, zq_t, zq_u, zq_v, zq_w, zq_x, zq_y, zq_z, zq_A, zq_B, zq_C, zq_D, zq_E, zq_F, zq_G, zq_H, zq_I, zq_J, zq_K, zq_L, ↓zq_M, ↓zq_N, ↓zq_O, ↓zq_P, ↓zq_Q, ↓zq_R, zq_S, zq_T, zq_U, zq_V, zq_W, zq_X, zq_Y, zq_Z, zq_0, zq_1, zq_2, zq_3, zq_4, zq_5, ↓zq_6, ↓zq_7, ↓zq_8, ↓zq_9, ↓zq_aa, zq_ab, zq_ac, zq_ad, zq_ae, zq_af, zq_ag, ↓zq_ah, ↓zq_ai, ↓zq_aj, zq_ak, ↓zq_al, ↓zq_am, e_b1, e_b2, x_o1, x_o2, r_O5, r_F15, r_F16, r_F17, c, c_n, w1, le]
  · rw [r_ent (show e_rok 177 [192] = true from decide_eq_true r_ref)]
    show e_tv E_C (E_V 177) e_t177_0 [192] M = _
    unfold e_t177_0
    simp [zq_a, zq_b, zq_c, zq_d, zq_e, zq_f, zq_g, zq_h, zq_i, zq_j, zq_k, zq_l, zq_m, zq_n, zq_o, zq_p, zq_q, zq_r, zq_s, zq_t, zq_u, zq_v, zq_w, zq_x, zq_y, zq_z, zq_A, zq_B, zq_C, zq_D, zq_E, zq_F, zq_G, zq_H, zq_I, zq_J, zq_K, zq_L, ↓zq_M, ↓zq_N, ↓zq_O, ↓zq_P, ↓zq_Q, ↓zq_R, zq_S, zq_T, zq_U, zq_V, zq_W, zq_X, zq_Y, zq_Z, zq_0, zq_1, zq_2, zq_3, zq_4, zq_5, ↓zq_6, ↓zq_7, ↓zq_8, ↓zq_9, ↓zq_aa, zq_ab, zq_ac, zq_ad, zq_ae, zq_af, zq_ag, ↓zq_ah, ↓zq_ai, ↓zq_aj, zq_ak, ↓zq_al, ↓zq_am, e_b1, e_b2, x_o1, x_o2, r_F15, r_F17, c, c_n]
theorem r_sg_r {M : EM} (h : r_ty M) : -2147483648 ≤ r_sg M ∧ r_sg M ≤ 2147483647 := by
  unfold r_sg
  rcases x_lt (M 192 15) (M 192 17) with ⟨c, c_n⟩ | ⟨c, c_n⟩
  · rw [if_pos c]; exact c_M32 h.1 (by decide) (by decide +kernel)
  · rw [if_neg c]; decide
theorem r_sg_lt {M : EM} {c : Int} (h : r_sg M = c) (hc : c ≠ -1000) : M 192 15 < M 192 17 := by
  unfold r_sg at h
  rcases x_lt (M 192 15) (M 192 17) with ⟨q, q_n⟩ | ⟨q, q_n⟩
  · exact q
  · rw [if_neg q] at h; exact absurd h.symm hc
/-- a step on -/
theorem r_tt_on {M : EM} (h : r_ty M) (hl : M 192 15 < M 192 17) : r_tt M (e_up M 192 15 (M 192 15 + 1)) := by
  obtain ⟨t1, t2, t3, t4, t5, t6⟩ := h
  refine ⟨r_up (by decide) (by decide +kernel) (by decide +kernel) ⟨by omega, by omega⟩ t1, fun id k hk => c_up_n (fun hc => hk ⟨hc.1, Or.inl hc.2⟩), by rw [c_up_s]; omega, by rw [c_up_s]; omega, fun hn => ?_⟩
  unfold r_N99
  rw [r_ff (by decide)]
  exact hn
theorem r_tt_nm {M : EM} {v : Int} (h : r_ty M) (hv : 0 ≤ v ∧ v ≤ 99) : r_tt M (e_up M 192 18 v) ∧ r_N99 (e_up M 192 18 v) := by
  obtain ⟨t1, t2, t3, t4, t5, t6⟩ := h
  have hn : r_N99 (e_up M 192 18 v) := by unfold r_N99; rw [c_up_s]; exact hv
  refine ⟨⟨r_up (by decide) (by decide +kernel) (by decide +kernel) ⟨by omega, by omega⟩ t1, fun id k hk => c_up_n (fun hc => hk ⟨hc.1, Or.inr hc.2⟩), by rw [r_ff (by decide)]; omega, by rw [r_ff (by decide)]; omega, fun _ => hn⟩, hn⟩
theorem r_takes {c : Int} {M : EM} (hT : r_ty M) (hc : c ≠ -1000) : (r_sg M = c ∧ E_C 178 [192, c] M = some (1, e_up M 192 15 (M 192 15 + 1)) ∧ r_tt M (e_up M 192 15 (M 192 15 + 1)) ∧ M 192 15 < M 192 17) ∨ (r_sg M ≠ c ∧ E_C 178 [192, c] M = some (0, M)) := by
  have ks := r_sign hT
  by_cases q : r_sg M = c
  · have hl := r_sg_lt q hc
    have t := hT
    obtain ⟨t1, t2, t3, t4, t5, t6⟩ := t
    have w1 : e_w (M 192 15 + 1) = M 192 15 + 1 := a_w_id (by omega) (by omega)
    refine Or.inl ⟨q, ?_, r_tt_on hT hl, hl⟩
    rw [r_ent (show e_rok 178 [192, c] = true from decide_eq_true r_ref)]
    show e_tv E_C (E_V 178) e_t178_0 [192, c] M = _
    unfold e_t178_0
    simp [zq_a, zq_b, zq_c, zq_d, zq_e, zq_f, zq_g, zq_h, zq_i, zq_j, zq_k, zq_l, zq_m, zq_n, zq_o, zq_p, zq_q, zq_r, zq_s, zq_t, zq_u, zq_v, zq_w, zq_x, zq_y, zq_z, zq_A, zq_B, zq_C, zq_D, zq_E, zq_F, zq_G, zq_H, zq_I, zq_J, zq_K, zq_L, ↓zq_M, ↓zq_N, ↓zq_O, ↓zq_P, ↓zq_Q, ↓zq_R, zq_S, zq_T, zq_U, zq_V, zq_W, zq_X, zq_Y, zq_Z, zq_0, zq_1, zq_2, zq_3, zq_4, zq_5, ↓zq_6, ↓zq_7, ↓zq_8, ↓zq_9, ↓zq_aa, zq_ab, zq_ac, zq_ad, zq_ae, zq_af, zq_ag, ↓zq_ah, ↓zq_ai, ↓zq_aj, zq_ak, ↓zq_al, ↓zq_am, e_b1, e_b2, x_o1, x_o2, r_F15, r_P15, ks, q, w1]
  · refine Or.inr ⟨q, ?_⟩
    rw [r_ent (show e_rok 178 [192, c] = true from decide_eq_true r_ref)]
    show e_tv E_C (E_V 178) e_t178_0 [192, c] M = _
    unfold e_t178_0
    simp [zq_a, zq_b, zq_c, zq_d, zq_e, zq_f, zq_g, zq_h, zq_i, zq_j, zq_k, zq_l, zq_m, zq_n, zq_o, zq_p, zq_q, zq_r, zq_s, zq_t, zq_u, zq_v, zq_w, zq_x, zq_y, zq_z, zq_A, zq_B, zq_C, zq_D, zq_E, zq_F, zq_G, zq_H, zq_I, zq_J, zq_K, zq_L, ↓zq_M, ↓zq_N, ↓zq_O, ↓zq_P, ↓zq_Q, ↓zq_R, zq_S, zq_T, zq_U, zq_V, zq_W, zq_X, zq_Y, zq_Z, zq_0, zq_1, zq_2, zq_3, zq_4, zq_5, ↓zq_6, ↓zq_7, ↓zq_8, ↓zq_9, ↓zq_aa, zq_ab, zq_ac, zq_ad, zq_ae, zq_af, zq_ag, ↓zq_ah, ↓zq_ai, ↓zq_aj, zq_ak, ↓zq_al, ↓zq_am, e_b1, e_b2, x_o1, x_o2, ks, q]
theorem r_takesT {c : Int} {M : EM} (hT : r_ty M) (hc : c ≠ -1000) : ∃ r M', E_C 178 [192, c] M = some (r, M') ∧ r_tt M M' ∧ (r = 0 ∨ r = 1) ∧ (r = 1 → M 192 15 < M' 192 15 ∧ M 192 15 < M 192 17) := by
  rcases r_takes hT hc with ⟨-, k, t, l⟩ | ⟨-, k⟩
  · exact ⟨1, _, k, t, Or.inr rfl, fun _ => ⟨by rw [c_up_s]; omega, l⟩⟩
  · exact ⟨0, M, k, r_tt_rf hT.1, Or.inl rfl, fun h => absurd h (by decide)⟩
theorem r_rNum {M : EM} (hT : r_ty M) : ∃ r M', E_C 179 [192] M = some (r, M') ∧ r_tt M M' ∧ (r = 0 ∨ r = 1) ∧ (r = 1 → M 192 15 < M' 192 15 ∧ r_N99 M') := by
  have ks := r_sign hT
  by_cases q : 48 ≤ r_sg M ∧ r_sg M ≤ 57
  · have i1 := r_in1 (M := M) q
    have hl := r_sg_lt (M := M) rfl (by omega)
    have hT' := hT
    obtain ⟨t1, t2, t3, t4, t5, t6⟩ := hT'
    have w1 : e_w (M 192 15 + 1) = M 192 15 + 1 := a_w_id (by omega) (by omega)
    have w2 : e_w (r_sg M - 48) = r_sg M - 48 := a_w_id (by omega) (by omega)
    obtain ⟨n1, n2⟩ := r_tt_nm (v := r_sg M - 48) hT ⟨by omega, by omega⟩
    have T1 := r_tt_ty hT n1
    have hl1 : (e_up M 192 18 (r_sg M - 48)) 192 15 < (e_up M 192 18 (r_sg M - 48)) 192 17 := by rw [r_ff (by decide), r_ff (by decide)]; exact hl
    have n3 := r_tt_on T1 hl1
    rw [r_ff (by decide)] at n3
    have n4 : r_N99 (e_up (e_up M 192 18 (r_sg M - 48)) 192 15 (M 192 15 + 1)) := n3.2.2.2.2 n2
    have T2 := r_tt_ty T1 n3
    have t12 := r_tt_tr n1 n3
    have p2 : (e_up (e_up M 192 18 (r_sg M - 48)) 192 15 (M 192 15 + 1)) 192 15 = M 192 15 + 1 := c_up_s
    have m2 : (e_up (e_up M 192 18 (r_sg M - 48)) 192 15 (M 192 15 + 1)) 192 18 = r_sg M - 48 := (r_ff (by decide)).trans c_up_s
    have s2 := r_sign T2
    have q17 : (e_up (e_up M 192 18 (r_sg M - 48)) 192 15 (M 192 15 + 1)) 192 17 = M 192 17 := r_tt_17 t12
    generalize hM2 : e_up (e_up M 192 18 (r_sg M - 48)) 192 15 (M 192 15 + 1) = M2 at n4 T2 t12 p2 m2 s2 q17
    rcases x_lt 48 (r_sg M) with ⟨c1, c1_n⟩ | ⟨c1, c1_n⟩
    · by_cases c2 : 48 ≤ r_sg M2 ∧ r_sg M2 ≤ 57
      · have i2 := r_in1 (M := M2) c2
        have hl2 := r_sg_lt (M := M2) rfl (by omega)
        have w3 : e_w (10 * (r_sg M - 48)) = 10 * (r_sg M - 48) := a_w_id (by omega) (by omega)
        have w4 : e_w (10 * (r_sg M - 48) + r_sg M2) = 10 * (r_sg M - 48) + r_sg M2 := a_w_id (by omega) (by omega)
        have w5 : e_w (10 * (r_sg M - 48) + r_sg M2 - 48) = 10 * (r_sg M - 48) + r_sg M2 - 48 := a_w_id (by omega) (by omega)
        have w6 : e_w (M 192 15 + 1 + 1) = M 192 15 + 1 + 1 := a_w_id (by omega) (by omega)
        obtain ⟨u1, u2⟩ := r_tt_nm (v := 10 * (r_sg M - 48) + r_sg M2 - 48) T2 ⟨by omega, by omega⟩
        have T3 := r_tt_ty T2 u1
        have hl3 : (e_up M2 192 18 (10 * (r_sg M - 48) + r_sg M2 - 48)) 192 15 < (e_up M2 192 18 (10 * (r_sg M - 48) + r_sg M2 - 48)) 192 17 := by rw [r_ff (by decide), r_ff (by decide)]; exact hl2
        have u3 := r_tt_on T3 hl3
        rw [r_ff (by decide), p2] at u3
        refine ⟨1, _, ?_, r_tt_tr t12 (r_tt_tr u1 u3), Or.inr rfl, fun _ => ⟨by rw [c_up_s]; omega, u3.2.2.2.2 u2⟩⟩
        have f15 : ∀ v, (e_up M2 192 18 v) 192 15 = M 192 15 + 1 := fun v => (r_ff (by decide)).trans p2
        rw [r_ent (show e_rok 179 [192] = true from decide_eq_true r_ref)]
        show e_tv E_C (E_V 179) e_t179_0 [192] M = _
        unfold e_t179_0
        simp [zq_a, zq_b, zq_c, zq_d, zq_e, zq_f, zq_g, zq_h, zq_i, zq_j, zq_k, zq_l, zq_m, zq_n, zq_o, zq_p, zq_q, zq_r, zq_s, zq_t, zq_u, zq_v, zq_w, zq_x, zq_y, zq_z, zq_A, zq_B, zq_C, zq_D, zq_E, zq_F, zq_G, zq_H, zq_I, zq_J, zq_K, zq_L, ↓zq_M, ↓zq_N, ↓zq_O, ↓zq_P, ↓zq_Q, ↓zq_R, zq_S, zq_T, zq_U, zq_V, zq_W, zq_X, zq_Y, zq_Z, zq_0, zq_1, zq_2, zq_3, zq_4, zq_5, ↓zq_6, ↓zq_7, ↓zq_8, ↓zq_9, ↓zq_aa, zq_ab, zq_ac, zq_ad, zq_ae, zq_af, zq_ag, ↓zq_ah, ↓zq_ai, ↓zq_aj, zq_ak, ↓zq_al, ↓zq_am, e_b1, e_b2, x_o1, x_o2, r_F15, r_F18, r_P15, r_P18, r_ff, ks, i1, w1, w2, hM2, p2, m2, c1, c1_n, s2, i2, w3, w4, w5, w6, f15]
      · have i2 := r_in0 (M := M2) c2
        refine ⟨1, M2, ?_, t12, Or.inr rfl, fun _ => ⟨by rw [p2]; omega, n4⟩⟩
        rw [r_ent (show e_rok 179 [192] = true from decide_eq_true r_ref)]
        show e_tv E_C (E_V 179) e_t179_0 [192] M = _
        unfold e_t179_0
        simp [zq_a, zq_b, zq_c, zq_d, zq_e, zq_f, zq_g, zq_h, zq_i, zq_j, zq_k, zq_l, zq_m, zq_n, zq_o, zq_p, zq_q, zq_r, zq_s, zq_t, zq_u, zq_v, zq_w, zq_x, zq_y, zq_z, zq_A, zq_B, zq_C, zq_D, zq_E, zq_F, zq_G, zq_H, zq_I, zq_J, zq_K, zq_L, ↓zq_M, ↓zq_N, ↓zq_O, ↓zq_P, ↓zq_Q, ↓zq_R, zq_S, zq_T, zq_U, zq_V, zq_W, zq_X, zq_Y, zq_Z, zq_0, zq_1, zq_2, zq_3, zq_4, zq_5, ↓zq_6, ↓zq_7, ↓zq_8, ↓zq_9, ↓zq_aa, zq_ab, zq_ac, zq_ad, zq_ae, zq_af, zq_ag, ↓zq_ah, ↓zq_ai, ↓zq_aj, zq_ak, ↓zq_al, ↓zq_am, e_b1, e_b2, x_o1, x_o2, r_F15, r_F18, r_P15, r_P18, r_ff, ks, i1, w1, w2, hM2, p2, m2, c1, c1_n, s2, i2]
    · refine ⟨1, M2, ?_, t12, Or.inr rfl, fun _ => ⟨by rw [p2]; omega, n4⟩⟩
      rw [r_ent (show e_rok 179 [192] = true from decide_eq_true r_ref)]
      show e_tv E_C (E_V 179) e_t179_0 [192] M = _
      unfold e_t179_0
      simp [zq_a, zq_b, zq_c, zq_d, zq_e, zq_f, zq_g, zq_h, zq_i, zq_j, zq_k, zq_l, zq_m, zq_n, zq_o, zq_p, zq_q, zq_r, zq_s, zq_t, zq_u, zq_v, zq_w, zq_x, zq_y, zq_z, zq_A, zq_B, zq_C, zq_D, zq_E, zq_F, zq_G, zq_H, zq_I, zq_J, zq_K, zq_L, ↓zq_M, ↓zq_N, ↓zq_O, ↓zq_P, ↓zq_Q, ↓zq_R, zq_S, zq_T, zq_U, zq_V, zq_W, zq_X, zq_Y, zq_Z, zq_0, zq_1, zq_2, zq_3, zq_4, zq_5, ↓zq_6, ↓zq_7, ↓zq_8, ↓zq_9, ↓zq_aa, zq_ab, zq_ac, zq_ad, zq_ae, zq_af, zq_ag, ↓zq_ah, ↓zq_ai, ↓zq_aj, zq_ak, ↓zq_al, ↓zq_am, e_b1, e_b2, x_o1, x_o2, r_F15, r_F18, r_P15, r_P18, r_ff, ks, i1, w1, w2, hM2, p2, m2, c1, c1_n, s2]
  · have i1 := r_in0 (M := M) q
    refine ⟨0, M, ?_, r_tt_rf hT.1, Or.inl rfl, fun h => absurd h (by decide)⟩
    rw [r_ent (show e_rok 179 [192] = true from decide_eq_true r_ref)]
    show e_tv E_C (E_V 179) e_t179_0 [192] M = _
    unfold e_t179_0
    simp [zq_a, zq_b, zq_c, zq_d, zq_e, zq_f, zq_g, zq_h, zq_i, zq_j, zq_k, zq_l, zq_m, zq_n, zq_o, zq_p, zq_q, zq_r, zq_s, zq_t, zq_u, zq_v, zq_w, zq_x, zq_y, zq_z, zq_A, zq_B, zq_C, zq_D, zq_E, zq_F, zq_G, zq_H, zq_I, zq_J, zq_K, zq_L, ↓zq_M, ↓zq_N, ↓zq_O, ↓zq_P, ↓zq_Q, ↓zq_R, zq_S, zq_T, zq_U, zq_V, zq_W, zq_X, zq_Y, zq_Z, zq_0, zq_1, zq_2, zq_3, zq_4, zq_5, ↓zq_6, ↓zq_7, ↓zq_8, ↓zq_9, ↓zq_aa, zq_ab, zq_ac, zq_ad, zq_ae, zq_af, zq_ag, ↓zq_ah, ↓zq_ai, ↓zq_aj, zq_ak, ↓zq_al, ↓zq_am, e_b1, e_b2, x_o1, x_o2, ks, i1]
theorem r_rNums_loop {x1 : Int} : ∀ (m : Nat) (M : EM), r_ty M → r_N99 M → (M 192 17 - M 192 15).toNat ≤ m → ∃ r M', E_V 180 9 [192] M = some (r, M') ∧ r_tt M M' ∧ (r = 0 ∨ r = 1) ∧ r_N99 M' := by
  intro m
  induction m with
  | zero =>
    intro M hT hN hm
    obtain ⟨s, M1, k1, t1, h1, l1⟩ := r_takesT (c := 32) hT (by decide)
    have hs : s = 0 := by
      rcases h1 with h1 | h1
      · exact h1
      · have := (l1 h1).2; omega
    subst hs
    refine ⟨1, M1, ?_, t1, Or.inr rfl, t1.2.2.2.2 hN⟩
    rw [E_V_eq]
    show e_tv E_C (E_V 180) e_t180_9 [192] M = _
    unfold e_t180_9
    simp [zq_a, zq_b, zq_c, zq_d, zq_e, zq_f, zq_g, zq_h, zq_i, zq_j, zq_k, zq_l, zq_m, zq_n, zq_o, zq_p, zq_q, zq_r, zq_s, zq_t, zq_u, zq_v, zq_w, zq_x, zq_y, zq_z, zq_A, zq_B, zq_C, zq_D, zq_E, zq_F, zq_G, zq_H, zq_I, zq_J, zq_K, zq_L, ↓zq_M, ↓zq_N, ↓zq_O, ↓zq_P, ↓zq_Q, ↓zq_R, zq_S, zq_T, zq_U, zq_V, zq_W, zq_X, zq_Y, zq_Z, zq_0, zq_1, zq_2, zq_3, zq_4, zq_5, ↓zq_6, ↓zq_7, ↓zq_8, ↓zq_9, ↓zq_aa, zq_ab, zq_ac, zq_ad, zq_ae, zq_af, zq_ag, ↓zq_ah, ↓zq_ai, ↓zq_aj, zq_ak, ↓zq_al, ↓zq_am, e_b1, e_b2, x_o1, x_o2, k1]
  | succ m ih =>
    intro M hT hN hm
    obtain ⟨s, M1, k1, t1, h1, l1⟩ := r_takesT (c := 32) hT (by decide)
    rcases h1 with h1 | h1
    · subst h1
      refine ⟨1, M1, ?_, t1, Or.inr rfl, t1.2.2.2.2 hN⟩
      rw [E_V_eq]
      show e_tv E_C (E_V 180) e_t180_9 [192] M = _
      unfold e_t180_9
      simp [zq_a, zq_b, zq_c, zq_d, zq_e, zq_f, zq_g, zq_h, zq_i, zq_j, zq_k, zq_l, zq_m, zq_n, zq_o, zq_p, zq_q, zq_r, zq_s, zq_t, zq_u, zq_v, zq_w, zq_x, zq_y, zq_z, zq_A, zq_B, zq_C, zq_D, zq_E, zq_F, zq_G, zq_H, zq_I, zq_J, zq_K, zq_L, ↓zq_M, ↓zq_N, ↓zq_O, ↓zq_P, ↓zq_Q, ↓zq_R, zq_S, zq_T, zq_U, zq_V, zq_W, zq_X, zq_Y, zq_Z, zq_0, zq_1, zq_2, zq_3, zq_4, zq_5, ↓zq_6, ↓zq_7, ↓zq_8, ↓zq_9, ↓zq_aa, zq_ab, zq_ac, zq_ad, zq_ae, zq_af, zq_ag, ↓zq_ah, ↓zq_ai, ↓zq_aj, zq_ak, ↓zq_al, ↓zq_am, e_b1, e_b2, x_o1, x_o2, k1]
    · subst h1
      have T1 := r_tt_ty hT t1
      obtain ⟨r, M2, k2, t2, h2, l2⟩ := r_rNum T1
      have t12 := r_tt_tr t1 t2
      rcases h2 with h2 | h2
      · subst h2
        refine ⟨0, M2, ?_, t12, Or.inl rfl, t12.2.2.2.2 hN⟩
        rw [E_V_eq]
        show e_tv E_C (E_V 180) e_t180_9 [192] M = _
        unfold e_t180_9
        simp [zq_a, zq_b, zq_c, zq_d, zq_e, zq_f, zq_g, zq_h, zq_i, zq_j, zq_k, zq_l, zq_m, zq_n, zq_o, zq_p, zq_q, zq_r, zq_s, zq_t, zq_u, zq_v, zq_w, zq_x, zq_y, zq_z, zq_A, zq_B, zq_C, zq_D, zq_E, zq_F, zq_G, zq_H, zq_I, zq_J, zq_K, zq_L, ↓zq_M, ↓zq_N, ↓zq_O, ↓zq_P, ↓zq_Q, ↓zq_R, zq_S, zq_T, zq_U, zq_V, zq_W, zq_X, zq_Y, zq_Z, zq_0, zq_1, zq_2, zq_3, zq_4, zq_5, ↓zq_6, ↓zq_7, ↓zq_8, ↓zq_9, ↓zq_aa, zq_ab, zq_ac, zq_ad, zq_ae, zq_af, zq_ag, ↓zq_ah, ↓zq_ai, ↓zq_aj, zq_ak, ↓zq_al, ↓zq_am, e_b1, e_b2, x_o1, x_o2, k1, k2]
      · subst h2
        have T2 := r_tt_ty T1 t2
        have e17 := r_tt_17 t12
        have p1 := (l1 rfl).1
        have p2 := (l2 rfl).1
        obtain ⟨r', M3, k3, t3, h3, l3⟩ := ih M2 T2 (t12.2.2.2.2 hN) (by omega)
        refine ⟨r', M3, ?_, r_tt_tr t12 t3, h3, l3⟩
        rw [E_V_eq]
        show e_tv E_C (E_V 180) e_t180_9 [192] M = _
        unfold e_t180_9
        simp [zq_a, zq_b, zq_c, zq_d, zq_e, zq_f, zq_g, zq_h, zq_i, zq_j, zq_k, zq_l, zq_m, zq_n, zq_o, zq_p, zq_q, zq_r, zq_s, zq_t, zq_u, zq_v, zq_w, zq_x, zq_y, zq_z, zq_A, zq_B, zq_C, zq_D, zq_E, zq_F, zq_G, zq_H, zq_I, zq_J, zq_K, zq_L, ↓zq_M, ↓zq_N, ↓zq_O, ↓zq_P, ↓zq_Q, ↓zq_R, zq_S, zq_T, zq_U, zq_V, zq_W, zq_X, zq_Y, zq_Z, zq_0, zq_1, zq_2, zq_3, zq_4, zq_5, ↓zq_6, ↓zq_7, ↓zq_8, ↓zq_9, ↓zq_aa, zq_ab, zq_ac, zq_ad, zq_ae, zq_af, zq_ag, ↓zq_ah, ↓zq_ai, ↓zq_aj, zq_ak, ↓zq_al, ↓zq_am, e_b1, e_b2, x_o1, x_o2, k1, k2, k3]
theorem r_rNums {M : EM} (hT : r_ty M) : ∃ r M', E_C 180 [192] M = some (r, M') ∧ r_tt M M' ∧ (r = 0 ∨ r = 1) ∧ (r = 1 → M 192 15 < M' 192 15 ∧ r_N99 M') := by
  obtain ⟨r, M1, k1, t1, h1, l1⟩ := r_rNum hT
  rcases h1 with h1 | h1
  · subst h1
    refine ⟨0, M1, ?_, t1, Or.inl rfl, fun h => absurd h (by decide)⟩
    rw [r_ent (show e_rok 180 [192] = true from decide_eq_true r_ref)]
    show e_tv E_C (E_V 180) e_t180_0 [192] M = _
    unfold e_t180_0
    simp [zq_a, zq_b, zq_c, zq_d, zq_e, zq_f, zq_g, zq_h, zq_i, zq_j, zq_k, zq_l, zq_m, zq_n, zq_o, zq_p, zq_q, zq_r, zq_s, zq_t, zq_u, zq_v, zq_w, zq_x, zq_y, zq_z, zq_A, zq_B, zq_C, zq_D, zq_E, zq_F, zq_G, zq_H, zq_I, zq_J, zq_K, zq_L, ↓zq_M, ↓zq_N, ↓zq_O, ↓zq_P, ↓zq_Q, ↓zq_R, zq_S, zq_T, zq_U, zq_V, zq_W, zq_X, zq_Y, zq_Z, zq_0, zq_1, zq_2, zq_3, zq_4, zq_5, ↓zq_6, ↓zq_7, ↓zq_8, ↓zq_9, ↓zq_aa, zq_ab, zq_ac, zq_ad, zq_ae, zq_af, zq_ag, ↓zq_ah, ↓zq_ai, ↓zq_aj, zq_ak, ↓zq_al, ↓zq_am, e_b1, e_b2, x_o1, x_o2, k1]
  · subst h1
    obtain ⟨p1, n1⟩ := l1 rfl
    obtain ⟨r, M2, k2, t2, h2, n2⟩ := r_rNums_loop (x1 := 0) _ M1 (r_tt_ty hT t1) n1 (Nat.le_refl _)
    refine ⟨r, M2, ?_, r_tt_tr t1 t2, h2, fun _ => ⟨by have := t2.2.2.1; omega, n2⟩⟩
    rw [r_ent (show e_rok 180 [192] = true from decide_eq_true r_ref)]
    show e_tv E_C (E_V 180) e_t180_0 [192] M = _
    unfold e_t180_0
    simp [zq_a, zq_b, zq_c, zq_d, zq_e, zq_f, zq_g, zq_h, zq_i, zq_j, zq_k, zq_l, zq_m, zq_n, zq_o, zq_p, zq_q, zq_r, zq_s, zq_t, zq_u, zq_v, zq_w, zq_x, zq_y, zq_z, zq_A, zq_B, zq_C, zq_D, zq_E, zq_F, zq_G, zq_H, zq_I, zq_J, zq_K, zq_L, ↓zq_M, ↓zq_N, ↓zq_O, ↓zq_P, ↓zq_Q, ↓zq_R, zq_S, zq_T, zq_U, zq_V, zq_W, zq_X, zq_Y, zq_Z, zq_0, zq_1, zq_2, zq_3, zq_4, zq_5, ↓zq_6, ↓zq_7, ↓zq_8, ↓zq_9, ↓zq_aa, zq_ab, zq_ac, zq_ad, zq_ae, zq_af, zq_ag, ↓zq_ah, ↓zq_ai, ↓zq_aj, zq_ak, ↓zq_al, ↓zq_am, e_b1, e_b2, x_o1, x_o2, k1, k2]
theorem r_rPoint {M : EM} (hT : r_ty M) : ∃ r M', E_C 181 [192] M = some (r, M') ∧ r_tt M M' ∧ (r = 0 ∨ r = 1) ∧ (r = 1 → M 192 15 < M' 192 15 ∧ r_N99 M') := by
  obtain ⟨r, M1, k1, t1, h1, l1⟩ := r_rNum hT
  rcases h1 with h1 | h1
  · subst h1
    refine ⟨0, M1, ?_, t1, Or.inl rfl, fun h => absurd h (by decide)⟩
    rw [r_ent (show e_rok 181 [192] = true from decide_eq_true r_ref)]
    show e_tv E_C (E_V 181) e_t181_0 [192] M = _
    unfold e_t181_0
    simp [zq_a, zq_b, zq_c, zq_d, zq_e, zq_f, zq_g, zq_h, zq_i, zq_j, zq_k, zq_l, zq_m, zq_n, zq_o, zq_p, zq_q, zq_r, zq_s, zq_t, zq_u, zq_v, zq_w, zq_x, zq_y, zq_z, zq_A, zq_B, zq_C, zq_D, zq_E, zq_F, zq_G, zq_H, zq_I, zq_J, zq_K, zq_L, ↓zq_M, ↓zq_N, ↓zq_O, ↓zq_P, ↓zq_Q, ↓zq_R, zq_S, zq_T, zq_U, zq_V, zq_W, zq_X, zq_Y, zq_Z, zq_0, zq_1, zq_2, zq_3, zq_4, zq_5, ↓zq_6, ↓zq_7, ↓zq_8, ↓zq_9, ↓zq_aa, zq_ab, zq_ac, zq_ad, zq_ae, zq_af, zq_ag, ↓zq_ah, ↓zq_ai, ↓zq_aj, zq_ak, ↓zq_al, ↓zq_am, e_b1, e_b2, x_o1, x_o2, k1]
  · subst h1
    obtain ⟨p1, n1⟩ := l1 rfl
    have T1 := r_tt_ty hT t1
    obtain ⟨s, M2, k2, t2, h2, l2⟩ := r_takesT (c := 47) T1 (by decide)
    rcases h2 with h2 | h2
    · subst h2
      refine ⟨0, M2, ?_, r_tt_tr t1 t2, Or.inl rfl, fun h => absurd h (by decide)⟩
      rw [r_ent (show e_rok 181 [192] = true from decide_eq_true r_ref)]
      show e_tv E_C (E_V 181) e_t181_0 [192] M = _
      unfold e_t181_0
      simp [zq_a, zq_b, zq_c, zq_d, zq_e, zq_f, zq_g, zq_h, zq_i, zq_j, zq_k, zq_l, zq_m, zq_n, zq_o, zq_p, zq_q, zq_r, zq_s, zq_t, zq_u, zq_v, zq_w, zq_x, zq_y, zq_z, zq_A, zq_B, zq_C, zq_D, zq_E, zq_F, zq_G, zq_H, zq_I, zq_J, zq_K, zq_L, ↓zq_M, ↓zq_N, ↓zq_O, ↓zq_P, ↓zq_Q, ↓zq_R, zq_S, zq_T, zq_U, zq_V, zq_W, zq_X, zq_Y, zq_Z, zq_0, zq_1, zq_2, zq_3, zq_4, zq_5, ↓zq_6, ↓zq_7, ↓zq_8, ↓zq_9, ↓zq_aa, zq_ab, zq_ac, zq_ad, zq_ae, zq_af, zq_ag, ↓zq_ah, ↓zq_ai, ↓zq_aj, zq_ak, ↓zq_al, ↓zq_am, e_b1, e_b2, x_o1, x_o2, k1, k2]
    · subst h2
      have T2 := r_tt_ty T1 t2
      obtain ⟨r, M3, k3, t3, h3, l3⟩ := r_rNum T2
      refine ⟨r, M3, ?_, r_tt_tr t1 (r_tt_tr t2 t3), h3, fun h => ⟨by have := (l3 h).1; have := t2.2.2.1; omega, (l3 h).2⟩⟩
      rw [r_ent (show e_rok 181 [192] = true from decide_eq_true r_ref)]
      show e_tv E_C (E_V 181) e_t181_0 [192] M = _
      unfold e_t181_0
      rcases h3 with h3 | h3
      · subst h3
        simp [zq_a, zq_b, zq_c, zq_d, zq_e, zq_f, zq_g, zq_h, zq_i, zq_j, zq_k, zq_l, zq_m, zq_n, zq_o, zq_p, zq_q, zq_r, zq_s, zq_t, zq_u, zq_v, zq_w, zq_x, zq_y, zq_z, zq_A, zq_B, zq_C, zq_D, zq_E, zq_F, zq_G, zq_H, zq_I, zq_J, zq_K, zq_L, ↓zq_M, ↓zq_N, ↓zq_O, ↓zq_P, ↓zq_Q, ↓zq_R, zq_S, zq_T, zq_U, zq_V, zq_W, zq_X, zq_Y, zq_Z, zq_0, zq_1, zq_2, zq_3, zq_4, zq_5, ↓zq_6, ↓zq_7, ↓zq_8, ↓zq_9, ↓zq_aa, zq_ab, zq_ac, zq_ad, zq_ae, zq_af, zq_ag, ↓zq_ah, ↓zq_ai, ↓zq_aj, zq_ak, ↓zq_al, ↓zq_am, e_b1, e_b2, x_o1, x_o2, k1, k2, k3]
      · subst h3
        simp [zq_a, zq_b, zq_c, zq_d, zq_e, zq_f, zq_g, zq_h, zq_i, zq_j, zq_k, zq_l, zq_m, zq_n, zq_o, zq_p, zq_q, zq_r, zq_s, zq_t, zq_u, zq_v, zq_w, zq_x, zq_y, zq_z, zq_A, zq_B, zq_C, zq_D, zq_E, zq_F, zq_G, zq_H, zq_I, zq_J, zq_K, zq_L, ↓zq_M, ↓zq_N, ↓zq_O, ↓zq_P, ↓zq_Q, ↓zq_R, zq_S, zq_T, zq_U, zq_V, zq_W, zq_X, zq_Y, zq_Z, zq_0, zq_1, zq_2, zq_3, zq_4, zq_5, ↓zq_6, ↓zq_7, ↓zq_8, ↓zq_9, ↓zq_aa, zq_ab, zq_ac, zq_ad, zq_ae, zq_af, zq_ag, ↓zq_ah, ↓zq_ai, ↓zq_aj, zq_ak, ↓zq_al, ↓zq_am, e_b1, e_b2, x_o1, x_o2, k1, k2, k3]
theorem r_rItem {M : EM} (hT : r_ty M) : ∃ r M', E_C 182 [192] M = some (r, M') ∧ r_tt M M' ∧ (r = 0 ∨ r = 1) ∧ (r = 1 → M 192 15 < M' 192 15 ∧ r_N99 M') := by
  obtain ⟨s, M1, k1, t1, h1, l1⟩ := r_takesT (c := 91) hT (by decide)
  have T1 := r_tt_ty hT t1
  rcases h1 with h1 | h1
  · subst h1
    obtain ⟨r, M3, k3, t3, h3, l3⟩ := r_rNum T1
    refine ⟨r, M3, ?_, r_tt_tr t1 t3, h3, fun h => ⟨by have := (l3 h).1; have := t1.2.2.1; omega, (l3 h).2⟩⟩
    rw [r_ent (show e_rok 182 [192] = true from decide_eq_true r_ref)]
    show e_tv E_C (E_V 182) e_t182_0 [192] M = _
    unfold e_t182_0
    simp [zq_a, zq_b, zq_c, zq_d, zq_e, zq_f, zq_g, zq_h, zq_i, zq_j, zq_k, zq_l, zq_m, zq_n, zq_o, zq_p, zq_q, zq_r, zq_s, zq_t, zq_u, zq_v, zq_w, zq_x, zq_y, zq_z, zq_A, zq_B, zq_C, zq_D, zq_E, zq_F, zq_G, zq_H, zq_I, zq_J, zq_K, zq_L, ↓zq_M, ↓zq_N, ↓zq_O, ↓zq_P, ↓zq_Q, ↓zq_R, zq_S, zq_T, zq_U, zq_V, zq_W, zq_X, zq_Y, zq_Z, zq_0, zq_1, zq_2, zq_3, zq_4, zq_5, ↓zq_6, ↓zq_7, ↓zq_8, ↓zq_9, ↓zq_aa, zq_ab, zq_ac, zq_ad, zq_ae, zq_af, zq_ag, ↓zq_ah, ↓zq_ai, ↓zq_aj, zq_ak, ↓zq_al, ↓zq_am, e_b1, e_b2, x_o1, x_o2, k1, k3]
  · subst h1
    obtain ⟨r, M2, k2, t2, h2, l2⟩ := r_rNums T1
    have T2 := r_tt_ty T1 t2
    rcases h2 with h2 | h2
    · subst h2
      refine ⟨0, M2, ?_, r_tt_tr t1 t2, Or.inl rfl, fun h => absurd h (by decide)⟩
      rw [r_ent (show e_rok 182 [192] = true from decide_eq_true r_ref)]
      show e_tv E_C (E_V 182) e_t182_0 [192] M = _
      unfold e_t182_0
      simp [zq_a, zq_b, zq_c, zq_d, zq_e, zq_f, zq_g, zq_h, zq_i, zq_j, zq_k, zq_l, zq_m, zq_n, zq_o, zq_p, zq_q, zq_r, zq_s, zq_t, zq_u, zq_v, zq_w, zq_x, zq_y, zq_z, zq_A, zq_B, zq_C, zq_D, zq_E, zq_F, zq_G, zq_H, zq_I, zq_J, zq_K, zq_L, ↓zq_M, ↓zq_N, ↓zq_O, ↓zq_P, ↓zq_Q, ↓zq_R, zq_S, zq_T, zq_U, zq_V, zq_W, zq_X, zq_Y, zq_Z, zq_0, zq_1, zq_2, zq_3, zq_4, zq_5, ↓zq_6, ↓zq_7, ↓zq_8, ↓zq_9, ↓zq_aa, zq_ab, zq_ac, zq_ad, zq_ae, zq_af, zq_ag, ↓zq_ah, ↓zq_ai, ↓zq_aj, zq_ak, ↓zq_al, ↓zq_am, e_b1, e_b2, x_o1, x_o2, k1, k2]
    · subst h2
      obtain ⟨p2, n2⟩ := l2 rfl
      obtain ⟨s, M3, k3, t3, h3, l3⟩ := r_takesT (c := 93) T2 (by decide)
      refine ⟨s, M3, ?_, r_tt_tr t1 (r_tt_tr t2 t3), h3, fun h => ⟨by have := t1.2.2.1; have := t3.2.2.1; omega, t3.2.2.2.2 n2⟩⟩
      rw [r_ent (show e_rok 182 [192] = true from decide_eq_true r_ref)]
      show e_tv E_C (E_V 182) e_t182_0 [192] M = _
      unfold e_t182_0
      rcases h3 with h3 | h3
      · subst h3
        simp [zq_a, zq_b, zq_c, zq_d, zq_e, zq_f, zq_g, zq_h, zq_i, zq_j, zq_k, zq_l, zq_m, zq_n, zq_o, zq_p, zq_q, zq_r, zq_s, zq_t, zq_u, zq_v, zq_w, zq_x, zq_y, zq_z, zq_A, zq_B, zq_C, zq_D, zq_E, zq_F, zq_G, zq_H, zq_I, zq_J, zq_K, zq_L, ↓zq_M, ↓zq_N, ↓zq_O, ↓zq_P, ↓zq_Q, ↓zq_R, zq_S, zq_T, zq_U, zq_V, zq_W, zq_X, zq_Y, zq_Z, zq_0, zq_1, zq_2, zq_3, zq_4, zq_5, ↓zq_6, ↓zq_7, ↓zq_8, ↓zq_9, ↓zq_aa, zq_ab, zq_ac, zq_ad, zq_ae, zq_af, zq_ag, ↓zq_ah, ↓zq_ai, ↓zq_aj, zq_ak, ↓zq_al, ↓zq_am, e_b1, e_b2, x_o1, x_o2, k1, k2, k3]
      · subst h3
        simp [zq_a, zq_b, zq_c, zq_d, zq_e, zq_f, zq_g, zq_h, zq_i, zq_j, zq_k, zq_l, zq_m, zq_n, zq_o, zq_p, zq_q, zq_r, zq_s, zq_t, zq_u, zq_v, zq_w, zq_x, zq_y, zq_z, zq_A, zq_B, zq_C, zq_D, zq_E, zq_F, zq_G, zq_H, zq_I, zq_J, zq_K, zq_L, ↓zq_M, ↓zq_N, ↓zq_O, ↓zq_P, ↓zq_Q, ↓zq_R, zq_S, zq_T, zq_U, zq_V, zq_W, zq_X, zq_Y, zq_Z, zq_0, zq_1, zq_2, zq_3, zq_4, zq_5, ↓zq_6, ↓zq_7, ↓zq_8, ↓zq_9, ↓zq_aa, zq_ab, zq_ac, zq_ad, zq_ae, zq_af, zq_ag, ↓zq_ah, ↓zq_ai, ↓zq_aj, zq_ak, ↓zq_al, ↓zq_am, e_b1, e_b2, x_o1, x_o2, k1, k2, k3]
theorem r_rS132 {x1 : Int} {M : EM} (hT : r_ty M) (hN : r_N99 M) : ∃ r M', E_V 183 132 [192, x1] M = some (r, M') ∧ r_tt M M' ∧ (r = 0 ∨ r = 1) ∧ r_N99 M' := by
  obtain ⟨s, M3, k3, t3, h3, l3⟩ := r_takesT (c := 59) hT (by decide)
  refine ⟨s, M3, ?_, t3, h3, t3.2.2.2.2 hN⟩
  rw [E_V_eq]
  show e_tv E_C (E_V 183) e_t183_132 [192, x1] M = _
  unfold e_t183_132
  simp [zq_a, zq_b, zq_c, zq_d, zq_e, zq_f, zq_g, zq_h, zq_i, zq_j, zq_k, zq_l, zq_m, zq_n, zq_o, zq_p, zq_q, zq_r, zq_s, zq_t, zq_u, zq_v, zq_w, zq_x, zq_y, zq_z, zq_A, zq_B, zq_C, zq_D, zq_E, zq_F, zq_G, zq_H, zq_I, zq_J, zq_K, zq_L, ↓zq_M, ↓zq_N, ↓zq_O, ↓zq_P, ↓zq_Q, ↓zq_R, zq_S, zq_T, zq_U, zq_V, zq_W, zq_X, zq_Y, zq_Z, zq_0, zq_1, zq_2, zq_3, zq_4, zq_5, ↓zq_6, ↓zq_7, ↓zq_8, ↓zq_9, ↓zq_aa, zq_ab, zq_ac, zq_ad, zq_ae, zq_af, zq_ag, ↓zq_ah, ↓zq_ai, ↓zq_aj, zq_ak, ↓zq_al, ↓zq_am, e_b1, e_b2, x_o1, x_o2, k3]
theorem r_rS56 {x1 : Int} : ∀ (m : Nat) (M : EM), r_ty M → r_N99 M → (M 192 17 - M 192 15).toNat ≤ m → ∃ r M', E_V 183 56 [192, x1] M = some (r, M') ∧ r_tt M M' ∧ (r = 0 ∨ r = 1) ∧ r_N99 M' := by
  intro m
  induction m with
  | zero =>
    intro M hT hN hm
    obtain ⟨s, M1, k1, t1, h1, l1⟩ := r_takesT (c := 32) hT (by decide)
    have hs : s = 0 := by
      rcases h1 with h1 | h1
      · exact h1
      · have := (l1 h1).2; omega
    subst hs
    obtain ⟨r, M2, k2, t2, h2, n2⟩ := r_rS132 (x1 := x1) (r_tt_ty hT t1) (t1.2.2.2.2 hN)
    refine ⟨r, M2, ?_, r_tt_tr t1 t2, h2, n2⟩
    rw [E_V_eq]
    show e_tv E_C (E_V 183) e_t183_56 [192, x1] M = _
    unfold e_t183_56
    simp [zq_a, zq_b, zq_c, zq_d, zq_e, zq_f, zq_g, zq_h, zq_i, zq_j, zq_k, zq_l, zq_m, zq_n, zq_o, zq_p, zq_q, zq_r, zq_s, zq_t, zq_u, zq_v, zq_w, zq_x, zq_y, zq_z, zq_A, zq_B, zq_C, zq_D, zq_E, zq_F, zq_G, zq_H, zq_I, zq_J, zq_K, zq_L, ↓zq_M, ↓zq_N, ↓zq_O, ↓zq_P, ↓zq_Q, ↓zq_R, zq_S, zq_T, zq_U, zq_V, zq_W, zq_X, zq_Y, zq_Z, zq_0, zq_1, zq_2, zq_3, zq_4, zq_5, ↓zq_6, ↓zq_7, ↓zq_8, ↓zq_9, ↓zq_aa, zq_ab, zq_ac, zq_ad, zq_ae, zq_af, zq_ag, ↓zq_ah, ↓zq_ai, ↓zq_aj, zq_ak, ↓zq_al, ↓zq_am, e_b1, e_b2, x_o1, x_o2, k1, k2]
  | succ m ih =>
    intro M hT hN hm
    obtain ⟨s, M1, k1, t1, h1, l1⟩ := r_takesT (c := 32) hT (by decide)
    rcases h1 with h1 | h1
    · subst h1
      obtain ⟨r, M2, k2, t2, h2, n2⟩ := r_rS132 (x1 := x1) (r_tt_ty hT t1) (t1.2.2.2.2 hN)
      refine ⟨r, M2, ?_, r_tt_tr t1 t2, h2, n2⟩
      rw [E_V_eq]
      show e_tv E_C (E_V 183) e_t183_56 [192, x1] M = _
      unfold e_t183_56
      simp [zq_a, zq_b, zq_c, zq_d, zq_e, zq_f, zq_g, zq_h, zq_i, zq_j, zq_k, zq_l, zq_m, zq_n, zq_o, zq_p, zq_q, zq_r, zq_s, zq_t, zq_u, zq_v, zq_w, zq_x, zq_y, zq_z, zq_A, zq_B, zq_C, zq_D, zq_E, zq_F, zq_G, zq_H, zq_I, zq_J, zq_K, zq_L, ↓zq_M, ↓zq_N, ↓zq_O, ↓zq_P, ↓zq_Q, ↓zq_R, zq_S, zq_T, zq_U, zq_V, zq_W, zq_X, zq_Y, zq_Z, zq_0, zq_1, zq_2, zq_3, zq_4, zq_5, ↓zq_6, ↓zq_7, ↓zq_8, ↓zq_9, ↓zq_aa, zq_ab, zq_ac, zq_ad, zq_ae, zq_af, zq_ag, ↓zq_ah, ↓zq_ai, ↓zq_aj, zq_ak, ↓zq_al, ↓zq_am, e_b1, e_b2, x_o1, x_o2, k1, k2]
    · subst h1
      have T1 := r_tt_ty hT t1
      obtain ⟨r, M2, k2, t2, h2, l2⟩ := r_rPoint T1
      have t12 := r_tt_tr t1 t2
      rcases h2 with h2 | h2
      · subst h2
        refine ⟨0, M2, ?_, t12, Or.inl rfl, t12.2.2.2.2 hN⟩
        rw [E_V_eq]
        show e_tv E_C (E_V 183) e_t183_56 [192, x1] M = _
        unfold e_t183_56
        simp [zq_a, zq_b, zq_c, zq_d, zq_e, zq_f, zq_g, zq_h, zq_i, zq_j, zq_k, zq_l, zq_m, zq_n, zq_o, zq_p, zq_q, zq_r, zq_s, zq_t, zq_u, zq_v, zq_w, zq_x, zq_y, zq_z, zq_A, zq_B, zq_C, zq_D, zq_E, zq_F, zq_G, zq_H, zq_I, zq_J, zq_K, zq_L, ↓zq_M, ↓zq_N, ↓zq_O, ↓zq_P, ↓zq_Q, ↓zq_R, zq_S, zq_T, zq_U, zq_V, zq_W, zq_X, zq_Y, zq_Z, zq_0, zq_1, zq_2, zq_3, zq_4, zq_5, ↓zq_6, ↓zq_7, ↓zq_8, ↓zq_9, ↓zq_aa, zq_ab, zq_ac, zq_ad, zq_ae, zq_af, zq_ag, ↓zq_ah, ↓zq_ai, ↓zq_aj, zq_ak, ↓zq_al, ↓zq_am, e_b1, e_b2, x_o1, x_o2, k1, k2]
      · subst h2
        have T2 := r_tt_ty T1 t2
        have e17 := r_tt_17 t12
        have p1 := (l1 rfl).1
        have p2 := (l2 rfl).1
        obtain ⟨r', M3, k3, t3, h3, l3⟩ := ih M2 T2 (t12.2.2.2.2 hN) (by omega)
        refine ⟨r', M3, ?_, r_tt_tr t12 t3, h3, l3⟩
        rw [E_V_eq]
        show e_tv E_C (E_V 183) e_t183_56 [192, x1] M = _
        unfold e_t183_56
        simp [zq_a, zq_b, zq_c, zq_d, zq_e, zq_f, zq_g, zq_h, zq_i, zq_j, zq_k, zq_l, zq_m, zq_n, zq_o, zq_p, zq_q, zq_r, zq_s, zq_t, zq_u, zq_v, zq_w, zq_x, zq_y, zq_z, zq_A, zq_B, zq_C, zq_D, zq_E, zq_F, zq_G, zq_H, zq_I, zq_J, zq_K, zq_L, ↓zq_M, ↓zq_N, ↓zq_O, ↓zq_P, ↓zq_Q, ↓zq_R, zq_S, zq_T, zq_U, zq_V, zq_W, zq_X, zq_Y, zq_Z, zq_0, zq_1, zq_2, zq_3, zq_4, zq_5, ↓zq_6, ↓zq_7, ↓zq_8, ↓zq_9, ↓zq_aa, zq_ab, zq_ac, zq_ad, zq_ae, zq_af, zq_ag, ↓zq_ah, ↓zq_ai, ↓zq_aj, zq_ak, ↓zq_al, ↓zq_am, e_b1, e_b2, x_o1, x_o2, k1, k2, k3]
theorem r_rS89 {x1 : Int} : ∀ (m : Nat) (M : EM), r_ty M → r_N99 M → (M 192 17 - M 192 15).toNat ≤ m → ∃ r M', E_V 183 89 [192, x1] M = some (r, M') ∧ r_tt M M' ∧ (r = 0 ∨ r = 1) ∧ r_N99 M' := by
  intro m
  induction m with
  | zero =>
    intro M hT hN hm
    obtain ⟨s, M1, k1, t1, h1, l1⟩ := r_takesT (c := 32) hT (by decide)
    have hs : s = 0 := by
      rcases h1 with h1 | h1
      · exact h1
      · have := (l1 h1).2; omega
    subst hs
    obtain ⟨r, M2, k2, t2, h2, n2⟩ := r_rS132 (x1 := x1) (r_tt_ty hT t1) (t1.2.2.2.2 hN)
    refine ⟨r, M2, ?_, r_tt_tr t1 t2, h2, n2⟩
    rw [E_V_eq]
    show e_tv E_C (E_V 183) e_t183_89 [192, x1] M = _
    unfold e_t183_89
    simp [zq_a, zq_b, zq_c, zq_d, zq_e, zq_f, zq_g, zq_h, zq_i, zq_j, zq_k, zq_l, zq_m, zq_n, zq_o, zq_p, zq_q, zq_r, zq_s, zq_t, zq_u, zq_v, zq_w, zq_x, zq_y, zq_z, zq_A, zq_B, zq_C, zq_D, zq_E, zq_F, zq_G, zq_H, zq_I, zq_J, zq_K, zq_L, ↓zq_M, ↓zq_N, ↓zq_O, ↓zq_P, ↓zq_Q, ↓zq_R, zq_S, zq_T, zq_U, zq_V, zq_W, zq_X, zq_Y, zq_Z, zq_0, zq_1, zq_2, zq_3, zq_4, zq_5, ↓zq_6, ↓zq_7, ↓zq_8, ↓zq_9, ↓zq_aa, zq_ab, zq_ac, zq_ad, zq_ae, zq_af, zq_ag, ↓zq_ah, ↓zq_ai, ↓zq_aj, zq_ak, ↓zq_al, ↓zq_am, e_b1, e_b2, x_o1, x_o2, k1, k2]
  | succ m ih =>
    intro M hT hN hm
    obtain ⟨s, M1, k1, t1, h1, l1⟩ := r_takesT (c := 32) hT (by decide)
    rcases h1 with h1 | h1
    · subst h1
      obtain ⟨r, M2, k2, t2, h2, n2⟩ := r_rS132 (x1 := x1) (r_tt_ty hT t1) (t1.2.2.2.2 hN)
      refine ⟨r, M2, ?_, r_tt_tr t1 t2, h2, n2⟩
      rw [E_V_eq]
      show e_tv E_C (E_V 183) e_t183_89 [192, x1] M = _
      unfold e_t183_89
      simp [zq_a, zq_b, zq_c, zq_d, zq_e, zq_f, zq_g, zq_h, zq_i, zq_j, zq_k, zq_l, zq_m, zq_n, zq_o, zq_p, zq_q, zq_r, zq_s, zq_t, zq_u, zq_v, zq_w, zq_x, zq_y, zq_z, zq_A, zq_B, zq_C, zq_D, zq_E, zq_F, zq_G, zq_H, zq_I, zq_J, zq_K, zq_L, ↓zq_M, ↓zq_N, ↓zq_O, ↓zq_P, ↓zq_Q, ↓zq_R, zq_S, zq_T, zq_U, zq_V, zq_W, zq_X, zq_Y, zq_Z, zq_0, zq_1, zq_2, zq_3, zq_4, zq_5, ↓zq_6, ↓zq_7, ↓zq_8, ↓zq_9, ↓zq_aa, zq_ab, zq_ac, zq_ad, zq_ae, zq_af, zq_ag, ↓zq_ah, ↓zq_ai, ↓zq_aj, zq_ak, ↓zq_al, ↓zq_am, e_b1, e_b2, x_o1, x_o2, k1, k2]
    · subst h1
      have T1 := r_tt_ty hT t1
      obtain ⟨r, M2, k2, t2, h2, l2⟩ := r_rItem T1
      have t12 := r_tt_tr t1 t2
      rcases h2 with h2 | h2
      · subst h2
        refine ⟨0, M2, ?_, t12, Or.inl rfl, t12.2.2.2.2 hN⟩
        rw [E_V_eq]
        show e_tv E_C (E_V 183) e_t183_89 [192, x1] M = _
        unfold e_t183_89
        simp [zq_a, zq_b, zq_c, zq_d, zq_e, zq_f, zq_g, zq_h, zq_i, zq_j, zq_k, zq_l, zq_m, zq_n, zq_o, zq_p, zq_q, zq_r, zq_s, zq_t, zq_u, zq_v, zq_w, zq_x, zq_y, zq_z, zq_A, zq_B, zq_C, zq_D, zq_E, zq_F, zq_G, zq_H, zq_I, zq_J, zq_K, zq_L, ↓zq_M, ↓zq_N, ↓zq_O, ↓zq_P, ↓zq_Q, ↓zq_R, zq_S, zq_T, zq_U, zq_V, zq_W, zq_X, zq_Y, zq_Z, zq_0, zq_1, zq_2, zq_3, zq_4, zq_5, ↓zq_6, ↓zq_7, ↓zq_8, ↓zq_9, ↓zq_aa, zq_ab, zq_ac, zq_ad, zq_ae, zq_af, zq_ag, ↓zq_ah, ↓zq_ai, ↓zq_aj, zq_ak, ↓zq_al, ↓zq_am, e_b1, e_b2, x_o1, x_o2, k1, k2]
      · subst h2
        have T2 := r_tt_ty T1 t2
        have e17 := r_tt_17 t12
        have p1 := (l1 rfl).1
        have p2 := (l2 rfl).1
        obtain ⟨r', M3, k3, t3, h3, l3⟩ := ih M2 T2 (t12.2.2.2.2 hN) (by omega)
        refine ⟨r', M3, ?_, r_tt_tr t12 t3, h3, l3⟩
        rw [E_V_eq]
        show e_tv E_C (E_V 183) e_t183_89 [192, x1] M = _
        unfold e_t183_89
        simp [zq_a, zq_b, zq_c, zq_d, zq_e, zq_f, zq_g, zq_h, zq_i, zq_j, zq_k, zq_l, zq_m, zq_n, zq_o, zq_p, zq_q, zq_r, zq_s, zq_t, zq_u, zq_v, zq_w, zq_x, zq_y, zq_z, zq_A, zq_B, zq_C, zq_D, zq_E, zq_F, zq_G, zq_H, zq_I, zq_J, zq_K, zq_L, ↓zq_M, ↓zq_N, ↓zq_O, ↓zq_P, ↓zq_Q, ↓zq_R, zq_S, zq_T, zq_U, zq_V, zq_W, zq_X, zq_Y, zq_Z, zq_0, zq_1, zq_2, zq_3, zq_4, zq_5, ↓zq_6, ↓zq_7, ↓zq_8, ↓zq_9, ↓zq_aa, zq_ab, zq_ac, zq_ad, zq_ae, zq_af, zq_ag, ↓zq_ah, ↓zq_ai, ↓zq_aj, zq_ak, ↓zq_al, ↓zq_am, e_b1, e_b2, x_o1, x_o2, k1, k2, k3]
theorem r_rStat {M : EM} (hT : r_ty M) : ∃ r M', E_C 183 [192] M = some (r, M') ∧ r_tt M M' ∧ (r = 0 ∨ r = 1) ∧ (r = 1 → M 192 15 < M' 192 15 ∧ r_N99 M') := by
  have ks := r_sign hT
  generalize hc : r_sg M = c at ks
  by_cases q : c ≠ 99 ∧ c ≠ 114 ∧ c ≠ 102 ∧ c ≠ 98
  · obtain ⟨q1, q2, q3, q4⟩ := q
    refine ⟨0, M, ?_, r_tt_rf hT.1, Or.inl rfl, fun h => absurd h (by decide)⟩
    rw [r_ent (show e_rok 183 [192] = true from decide_eq_true r_ref)]
    show e_tv E_C (E_V 183) e_t183_0 [192, 0] M = _
    unfold e_t183_0
    simp [zq_a, zq_b, zq_c, zq_d, zq_e, zq_f, zq_g, zq_h, zq_i, zq_j, zq_k, zq_l, zq_m, zq_n, zq_o, zq_p, zq_q, zq_r, zq_s, zq_t, zq_u, zq_v, zq_w, zq_x, zq_y, zq_z, zq_A, zq_B, zq_C, zq_D, zq_E, zq_F, zq_G, zq_H, zq_I, zq_J, zq_K, zq_L, ↓zq_M, ↓zq_N, ↓zq_O, ↓zq_P, ↓zq_Q, ↓zq_R, zq_S, zq_T, zq_U, zq_V, zq_W, zq_X, zq_Y, zq_Z, zq_0, zq_1, zq_2, zq_3, zq_4, zq_5, ↓zq_6, ↓zq_7, ↓zq_8, ↓zq_9, ↓zq_aa, zq_ab, zq_ac, zq_ad, zq_ae, zq_af, zq_ag, ↓zq_ah, ↓zq_ai, ↓zq_aj, zq_ak, ↓zq_al, ↓zq_am, e_b1, e_b2, x_o1, x_o2, ks, q1, q2, q3, q4]
  · have hl := r_sg_lt hc (by omega)
    have t1 := r_tt_on hT hl
    have T1 := r_tt_ty hT t1
    have hT' := hT
    obtain ⟨b1, b2, b3, b4, b5, b6⟩ := hT'
    have w1 : e_w (M 192 15 + 1) = M 192 15 + 1 := a_w_id (by omega) (by omega)
    have p1 : (e_up M 192 15 (M 192 15 + 1)) 192 15 = M 192 15 + 1 := c_up_s
    generalize hM1 : e_up M 192 15 (M 192 15 + 1) = M1 at t1 T1 p1
    by_cases c1 : c = 99
    · subst c1
      obtain ⟨r, M2, k2, t2, h2, l2⟩ := r_rPoint T1
      rcases h2 with h2 | h2
      · subst h2
        refine ⟨0, M2, ?_, r_tt_tr t1 t2, Or.inl rfl, fun h => absurd h (by decide)⟩
        rw [r_ent (show e_rok 183 [192] = true from decide_eq_true r_ref)]
        show e_tv E_C (E_V 183) e_t183_0 [192, 0] M = _
        unfold e_t183_0
        simp [zq_a, zq_b, zq_c, zq_d, zq_e, zq_f, zq_g, zq_h, zq_i, zq_j, zq_k, zq_l, zq_m, zq_n, zq_o, zq_p, zq_q, zq_r, zq_s, zq_t, zq_u, zq_v, zq_w, zq_x, zq_y, zq_z, zq_A, zq_B, zq_C, zq_D, zq_E, zq_F, zq_G, zq_H, zq_I, zq_J, zq_K, zq_L, ↓zq_M, ↓zq_N, ↓zq_O, ↓zq_P, ↓zq_Q, ↓zq_R, zq_S, zq_T, zq_U, zq_V, zq_W, zq_X, zq_Y, zq_Z, zq_0, zq_1, zq_2, zq_3, zq_4, zq_5, ↓zq_6, ↓zq_7, ↓zq_8, ↓zq_9, ↓zq_aa, zq_ab, zq_ac, zq_ad, zq_ae, zq_af, zq_ag, ↓zq_ah, ↓zq_ai, ↓zq_aj, zq_ak, ↓zq_al, ↓zq_am, e_b1, e_b2, x_o1, x_o2, r_F15, r_P15, ks, w1, hM1, k2]
      · subst h2
        obtain ⟨p2, n2⟩ := l2 rfl
        obtain ⟨r, M3, k3, t3, h3, n3⟩ := r_rS56 (x1 := 99) _ M2 (r_tt_ty T1 t2) n2 (Nat.le_refl _)
        refine ⟨r, M3, ?_, r_tt_tr t1 (r_tt_tr t2 t3), h3, fun _ => ⟨by have := t3.2.2.1; omega, n3⟩⟩
        rw [r_ent (show e_rok 183 [192] = true from decide_eq_true r_ref)]
        show e_tv E_C (E_V 183) e_t183_0 [192, 0] M = _
        unfold e_t183_0
        simp [zq_a, zq_b, zq_c, zq_d, zq_e, zq_f, zq_g, zq_h, zq_i, zq_j, zq_k, zq_l, zq_m, zq_n, zq_o, zq_p, zq_q, zq_r, zq_s, zq_t, zq_u, zq_v, zq_w, zq_x, zq_y, zq_z, zq_A, zq_B, zq_C, zq_D, zq_E, zq_F, zq_G, zq_H, zq_I, zq_J, zq_K, zq_L, ↓zq_M, ↓zq_N, ↓zq_O, ↓zq_P, ↓zq_Q, ↓zq_R, zq_S, zq_T, zq_U, zq_V, zq_W, zq_X, zq_Y, zq_Z, zq_0, zq_1, zq_2, zq_3, zq_4, zq_5, ↓zq_6, ↓zq_7, ↓zq_8, ↓zq_9, ↓zq_aa, zq_ab, zq_ac, zq_ad, zq_ae, zq_af, zq_ag, ↓zq_ah, ↓zq_ai, ↓zq_aj, zq_ak, ↓zq_al, ↓zq_am, e_b1, e_b2, x_o1, x_o2, r_F15, r_P15, ks, w1, hM1, k2, k3]
    · by_cases c2 : c = 114
      · subst c2
        obtain ⟨r, M2, k2, t2, h2, l2⟩ := r_rItem T1
        rcases h2 with h2 | h2
        · subst h2
          refine ⟨0, M2, ?_, r_tt_tr t1 t2, Or.inl rfl, fun h => absurd h (by decide)⟩
          rw [r_ent (show e_rok 183 [192] = true from decide_eq_true r_ref)]
          show e_tv E_C (E_V 183) e_t183_0 [192, 0] M = _
          unfold e_t183_0
          simp [zq_a, zq_b, zq_c, zq_d, zq_e, zq_f, zq_g, zq_h, zq_i, zq_j, zq_k, zq_l, zq_m, zq_n, zq_o, zq_p, zq_q, zq_r, zq_s, zq_t, zq_u, zq_v, zq_w, zq_x, zq_y, zq_z, zq_A, zq_B, zq_C, zq_D, zq_E, zq_F, zq_G, zq_H, zq_I, zq_J, zq_K, zq_L, ↓zq_M, ↓zq_N, ↓zq_O, ↓zq_P, ↓zq_Q, ↓zq_R, zq_S, zq_T, zq_U, zq_V, zq_W, zq_X, zq_Y, zq_Z, zq_0, zq_1, zq_2, zq_3, zq_4, zq_5, ↓zq_6, ↓zq_7, ↓zq_8, ↓zq_9, ↓zq_aa, zq_ab, zq_ac, zq_ad, zq_ae, zq_af, zq_ag, ↓zq_ah, ↓zq_ai, ↓zq_aj, zq_ak, ↓zq_al, ↓zq_am, e_b1, e_b2, x_o1, x_o2, r_F15, r_P15, ks, w1, hM1, k2]
        · subst h2
          obtain ⟨p2, n2⟩ := l2 rfl
          obtain ⟨r, M3, k3, t3, h3, n3⟩ := r_rS89 (x1 := 114) _ M2 (r_tt_ty T1 t2) n2 (Nat.le_refl _)
          refine ⟨r, M3, ?_, r_tt_tr t1 (r_tt_tr t2 t3), h3, fun _ => ⟨by have := t3.2.2.1; omega, n3⟩⟩
          rw [r_ent (show e_rok 183 [192] = true from decide_eq_true r_ref)]
          show e_tv E_C (E_V 183) e_t183_0 [192, 0] M = _
          unfold e_t183_0
          simp [zq_a, zq_b, zq_c, zq_d, zq_e, zq_f, zq_g, zq_h, zq_i, zq_j, zq_k, zq_l, zq_m, zq_n, zq_o, zq_p, zq_q, zq_r, zq_s, zq_t, zq_u, zq_v, zq_w, zq_x, zq_y, zq_z, zq_A, zq_B, zq_C, zq_D, zq_E, zq_F, zq_G, zq_H, zq_I, zq_J, zq_K, zq_L, ↓zq_M, ↓zq_N, ↓zq_O, ↓zq_P, ↓zq_Q, ↓zq_R, zq_S, zq_T, zq_U, zq_V, zq_W, zq_X, zq_Y, zq_Z, zq_0, zq_1, zq_2, zq_3, zq_4, zq_5, ↓zq_6, ↓zq_7, ↓zq_8, ↓zq_9, ↓zq_aa, zq_ab, zq_ac, zq_ad, zq_ae, zq_af, zq_ag, ↓zq_ah, ↓zq_ai, ↓zq_aj, zq_ak, ↓zq_al, ↓zq_am, e_b1, e_b2, x_o1, x_o2, r_F15, r_P15, ks, w1, hM1, k2, k3]
      · have k130 : ∀ M2, E_V 183 130 [192, c] M2 = some (0, M2) := by
          intro M2
          rw [E_V_eq]
          show e_tv E_C (E_V 183) e_t183_130 [192, c] M2 = _
          unfold e_t183_130
          simp [zq_a, zq_b, zq_c, zq_d, zq_e, zq_f, zq_g, zq_h, zq_i, zq_j, zq_k, zq_l, zq_m, zq_n, zq_o, zq_p, zq_q, zq_r, zq_s, zq_t, zq_u, zq_v, zq_w, zq_x, zq_y, zq_z, zq_A, zq_B, zq_C, zq_D, zq_E, zq_F, zq_G, zq_H, zq_I, zq_J, zq_K, zq_L, ↓zq_M, ↓zq_N, ↓zq_O, ↓zq_P, ↓zq_Q, ↓zq_R, zq_S, zq_T, zq_U, zq_V, zq_W, zq_X, zq_Y, zq_Z, zq_0, zq_1, zq_2, zq_3, zq_4, zq_5, ↓zq_6, ↓zq_7, ↓zq_8, ↓zq_9, ↓zq_aa, zq_ab, zq_ac, zq_ad, zq_ae, zq_af, zq_ag, ↓zq_ah, ↓zq_ai, ↓zq_aj, zq_ak, ↓zq_al, ↓zq_am, e_b1, e_b2, x_o1, x_o2]
        by_cases c3 : c = 102
        · obtain ⟨r, M2, k2, t2, h2, l2⟩ := r_rNums T1
          rcases h2 with h2 | h2
          · subst h2
            refine ⟨0, M2, ?_, r_tt_tr t1 t2, Or.inl rfl, fun h => absurd h (by decide)⟩
            subst c3
            rw [r_ent (show e_rok 183 [192] = true from decide_eq_true r_ref)]
            show e_tv E_C (E_V 183) e_t183_0 [192, 0] M = _
            unfold e_t183_0
            simp [zq_a, zq_b, zq_c, zq_d, zq_e, zq_f, zq_g, zq_h, zq_i, zq_j, zq_k, zq_l, zq_m, zq_n, zq_o, zq_p, zq_q, zq_r, zq_s, zq_t, zq_u, zq_v, zq_w, zq_x, zq_y, zq_z, zq_A, zq_B, zq_C, zq_D, zq_E, zq_F, zq_G, zq_H, zq_I, zq_J, zq_K, zq_L, ↓zq_M, ↓zq_N, ↓zq_O, ↓zq_P, ↓zq_Q, ↓zq_R, zq_S, zq_T, zq_U, zq_V, zq_W, zq_X, zq_Y, zq_Z, zq_0, zq_1, zq_2, zq_3, zq_4, zq_5, ↓zq_6, ↓zq_7, ↓zq_8, ↓zq_9, ↓zq_aa, zq_ab, zq_ac, zq_ad, zq_ae, zq_af, zq_ag, ↓zq_ah, ↓zq_ai, ↓zq_aj, zq_ak, ↓zq_al, ↓zq_am, e_b1, e_b2, x_o1, x_o2, r_F15, r_P15, ks, w1, hM1, k2, k130]
          · subst h2
            obtain ⟨p2, n2⟩ := l2 rfl
            obtain ⟨r, M3, k3, t3, h3, n3⟩ := r_rS132 (x1 := c) (r_tt_ty T1 t2) n2
            refine ⟨r, M3, ?_, r_tt_tr t1 (r_tt_tr t2 t3), h3, fun _ => ⟨by have := t3.2.2.1; omega, n3⟩⟩
            subst c3
            rw [r_ent (show e_rok 183 [192] = true from decide_eq_true r_ref)]
            show e_tv E_C (E_V 183) e_t183_0 [192, 0] M = _
            unfold e_t183_0
            simp [zq_a, zq_b, zq_c, zq_d, zq_e, zq_f, zq_g, zq_h, zq_i, zq_j, zq_k, zq_l, zq_m, zq_n, zq_o, zq_p, zq_q, zq_r, zq_s, zq_t, zq_u, zq_v, zq_w, zq_x, zq_y, zq_z, zq_A, zq_B, zq_C, zq_D, zq_E, zq_F, zq_G, zq_H, zq_I, zq_J, zq_K, zq_L, ↓zq_M, ↓zq_N, ↓zq_O, ↓zq_P, ↓zq_Q, ↓zq_R, zq_S, zq_T, zq_U, zq_V, zq_W, zq_X, zq_Y, zq_Z, zq_0, zq_1, zq_2, zq_3, zq_4, zq_5, ↓zq_6, ↓zq_7, ↓zq_8, ↓zq_9, ↓zq_aa, zq_ab, zq_ac, zq_ad, zq_ae, zq_af, zq_ag, ↓zq_ah, ↓zq_ai, ↓zq_aj, zq_ak, ↓zq_al, ↓zq_am, e_b1, e_b2, x_o1, x_o2, r_F15, r_P15, ks, w1, hM1, k2, k3]
        · have c4 : c = 98 := by omega
          obtain ⟨r, M2, k2, t2, h2, l2⟩ := r_rNum T1
          rcases h2 with h2 | h2
          · subst h2
            refine ⟨0, M2, ?_, r_tt_tr t1 t2, Or.inl rfl, fun h => absurd h (by decide)⟩
            subst c4
            rw [r_ent (show e_rok 183 [192] = true from decide_eq_true r_ref)]
            show e_tv E_C (E_V 183) e_t183_0 [192, 0] M = _
            unfold e_t183_0
            simp [zq_a, zq_b, zq_c, zq_d, zq_e, zq_f, zq_g, zq_h, zq_i, zq_j, zq_k, zq_l, zq_m, zq_n, zq_o, zq_p, zq_q, zq_r, zq_s, zq_t, zq_u, zq_v, zq_w, zq_x, zq_y, zq_z, zq_A, zq_B, zq_C, zq_D, zq_E, zq_F, zq_G, zq_H, zq_I, zq_J, zq_K, zq_L, ↓zq_M, ↓zq_N, ↓zq_O, ↓zq_P, ↓zq_Q, ↓zq_R, zq_S, zq_T, zq_U, zq_V, zq_W, zq_X, zq_Y, zq_Z, zq_0, zq_1, zq_2, zq_3, zq_4, zq_5, ↓zq_6, ↓zq_7, ↓zq_8, ↓zq_9, ↓zq_aa, zq_ab, zq_ac, zq_ad, zq_ae, zq_af, zq_ag, ↓zq_ah, ↓zq_ai, ↓zq_aj, zq_ak, ↓zq_al, ↓zq_am, e_b1, e_b2, x_o1, x_o2, r_F15, r_P15, ks, w1, hM1, k2, k130]
          · subst h2
            obtain ⟨p2, n2⟩ := l2 rfl
            obtain ⟨r, M3, k3, t3, h3, n3⟩ := r_rS132 (x1 := c) (r_tt_ty T1 t2) n2
            refine ⟨r, M3, ?_, r_tt_tr t1 (r_tt_tr t2 t3), h3, fun _ => ⟨by have := t3.2.2.1; omega, n3⟩⟩
            subst c4
            rw [r_ent (show e_rok 183 [192] = true from decide_eq_true r_ref)]
            show e_tv E_C (E_V 183) e_t183_0 [192, 0] M = _
            unfold e_t183_0
            simp [zq_a, zq_b, zq_c, zq_d, zq_e, zq_f, zq_g, zq_h, zq_i, zq_j, zq_k, zq_l, zq_m, zq_n, zq_o, zq_p, zq_q, zq_r, zq_s, zq_t, zq_u, zq_v, zq_w, zq_x, zq_y, zq_z, zq_A, zq_B, zq_C, zq_D, zq_E, zq_F, zq_G, zq_H, zq_I, zq_J, zq_K, zq_L, ↓zq_M, ↓zq_N, ↓zq_O, ↓zq_P, ↓zq_Q, ↓zq_R, zq_S, zq_T, zq_U, zq_V, zq_W, zq_X, zq_Y, zq_Z, zq_0, zq_1, zq_2, zq_3, zq_4, zq_5, ↓zq_6, ↓zq_7, ↓zq_8, ↓zq_9, ↓zq_aa, zq_ab, zq_ac, zq_ad, zq_ae, zq_af, zq_ag, ↓zq_ah, ↓zq_ai, ↓zq_aj, zq_ak, ↓zq_al, ↓zq_am, e_b1, e_b2, x_o1, x_o2, r_F15, r_P15, ks, w1, hM1, k2, k3]
