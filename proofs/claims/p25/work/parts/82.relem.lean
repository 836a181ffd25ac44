section
theorem r_element {d i : Int} {M : EM} (hM : a_M M) (hI : r_I M) : ∃ r M', E_C 261 [192, d, i] M = some (r, M') ∧ (-2147483648 ≤ r ∧ r ≤ 2147483647) ∧ a_M M' ∧ a_fr [(192, 10, 10)] M M' := by
  have h1 : E_C 261 [192, d, i] M = e_tv E_C (E_V 261) e_t261_0 [192, d, i] M := by
    unfold E_C
    rw [if_pos (show e_rok 261 [192, d, i] = true from decide_eq_true r_ref), E_V_eq]
    rfl
  have g2 : ∀ M, e_gf 770 [192] M = some 195 := fun M => r_g 770 195 M (by decide +kernel)
  have g4 : ∀ M, e_gf 772 [192] M = some 197 := fun M => r_g 772 197 M (by decide +kernel)
  have g5 : ∀ M, e_gf 773 [192] M = some 198 := fun M => r_g 773 198 M (by decide +kernel)
  have g10 : ∀ M, e_gf 778 [192] M = some (M 192 10) := fun M => c_gf r_ref (by decide +kernel)
  have p10 : ∀ v M, e_pf 778 [192, v] M = some (e_up M 192 10 v) := fun v M => c_pf r_ref (by decide +kernel)
  have b1 : ∀ a, e_b1 1 a = some a := fun _ => rfl
  have b22 : ∀ a, e_b1 22 a = some a := fun _ => rfl
  have b46 : ∀ a, e_b1 46 a = some (if a = 0 then 1 else 0) := fun _ => rfl
  have hup : ∀ {x : Int}, (-2147483648 ≤ x ∧ x ≤ 2147483647) → a_M (e_up M 192 10 x) ∧ a_fr [(192, 10, 10)] M (e_up M 192 10 x) := by
    intro x hx
    refine ⟨r_up (by decide) (by decide +kernel) (by decide +kernel) hx hM, fun b j hw => c_up_n (fun hc => hw _ List.mem_cons_self ⟨hc.1.symm, ?_, ?_⟩)⟩
    · rw [hc.2]; exact Nat.le_refl _
    · rw [hc.2]; exact Nat.le_refl _
  rw [h1]
  unfold e_t261_0
  have u1 : ∀ v, e_up M 192 10 v 192 10 = v := fun v => c_up_s
  by_cases q0 : 0 ≤ d ∧ d ≤ 7
  · obtain ⟨l1, -, l3, -, -, -⟩ := r_isD d M q0
    have hz := hI d.toNat (by omega)
    have w0 : e_w (M 197 d.toNat - 1) = M 197 d.toNat - 1 := a_w_id (by omega) (by omega)
    by_cases q1 : M 195 d.toNat = 2
    · by_cases q2 : 0 ≤ i ∧ i ≤ M 197 d.toNat - 1
      · have w1 : e_w (120 * d) = 120 * d := a_w_id (by omega) (by omega)
        have w2 : e_w (120 * d + i) = 120 * d + i := a_w_id (by omega) (by omega)
        have hb := hup (x := 0) (by decide)
        have ld : e_op 60 [198, 120 * d + i] (e_up M 192 10 0) = some (e_up M 192 10 0 198 (120 * d + i).toNat) := r_ld (n := 960) (by decide) (by decide +kernel) (by decide +kernel) (by omega) (by omega)
        have hr := c_M32 (id := 198) (k := (120 * d + i).toNat) hb.1 (by decide) (by decide +kernel)
        generalize hg : e_up M 192 10 0 198 (120 * d + i).toNat = x at ld hr
        exact ⟨x, e_up M 192 10 0, by simp [zq_a, zq_b, zq_c, zq_d, zq_e, zq_f, zq_g, zq_h, zq_i, zq_j, zq_k, zq_l, zq_m, zq_n, zq_o, zq_p, zq_q, zq_r, zq_s, zq_t, zq_u, zq_v, zq_w, zq_x, zq_y, zq_z, zq_A, zq_B, zq_C, zq_D, zq_E, zq_F, zq_G, zq_H, zq_I, zq_J, zq_K, zq_L, ↓zq_M, ↓zq_N, ↓zq_O, ↓zq_P, ↓zq_Q, ↓zq_R, zq_S, zq_T, zq_U, zq_V, zq_W, zq_X, zq_Y, zq_Z, zq_0, zq_1, zq_2, zq_3, zq_4, zq_5, ↓zq_6, ↓zq_7, ↓zq_8, ↓zq_9, ↓zq_aa, zq_ab, zq_ac, zq_ad, zq_ae, zq_af, zq_ag, ↓zq_ah, ↓zq_ai, ↓zq_aj, zq_ak, ↓zq_al, ↓zq_am, b1, b22, b46, e_b2, x_o1, x_o2, r_isShelf, r_isIn, q0, g2, g4, g5, g10, p10, l1, l3, w0, w1, w2, q1, q2, u1, ld], hr, hb.1, hb.2⟩
      · have hb := hup (x := 2) (by decide)
        exact ⟨0, e_up M 192 10 2, by simp [zq_a, zq_b, zq_c, zq_d, zq_e, zq_f, zq_g, zq_h, zq_i, zq_j, zq_k, zq_l, zq_m, zq_n, zq_o, zq_p, zq_q, zq_r, zq_s, zq_t, zq_u, zq_v, zq_w, zq_x, zq_y, zq_z, zq_A, zq_B, zq_C, zq_D, zq_E, zq_F, zq_G, zq_H, zq_I, zq_J, zq_K, zq_L, ↓zq_M, ↓zq_N, ↓zq_O, ↓zq_P, ↓zq_Q, ↓zq_R, zq_S, zq_T, zq_U, zq_V, zq_W, zq_X, zq_Y, zq_Z, zq_0, zq_1, zq_2, zq_3, zq_4, zq_5, ↓zq_6, ↓zq_7, ↓zq_8, ↓zq_9, ↓zq_aa, zq_ab, zq_ac, zq_ad, zq_ae, zq_af, zq_ag, ↓zq_ah, ↓zq_ai, ↓zq_aj, zq_ak, ↓zq_al, ↓zq_am, b1, b22, b46, e_b2, x_o1, x_o2, r_isShelf, r_isIn, q0, g2, g4, g5, g10, p10, l1, l3, w0, q1, q2, u1], by decide, hb.1, hb.2⟩
    · have hb := hup (x := 2) (by decide)
      exact ⟨0, e_up M 192 10 2, by simp [zq_a, zq_b, zq_c, zq_d, zq_e, zq_f, zq_g, zq_h, zq_i, zq_j, zq_k, zq_l, zq_m, zq_n, zq_o, zq_p, zq_q, zq_r, zq_s, zq_t, zq_u, zq_v, zq_w, zq_x, zq_y, zq_z, zq_A, zq_B, zq_C, zq_D, zq_E, zq_F, zq_G, zq_H, zq_I, zq_J, zq_K, zq_L, ↓zq_M, ↓zq_N, ↓zq_O, ↓zq_P, ↓zq_Q, ↓zq_R, zq_S, zq_T, zq_U, zq_V, zq_W, zq_X, zq_Y, zq_Z, zq_0, zq_1, zq_2, zq_3, zq_4, zq_5, ↓zq_6, ↓zq_7, ↓zq_8, ↓zq_9, ↓zq_aa, zq_ab, zq_ac, zq_ad, zq_ae, zq_af, zq_ag, ↓zq_ah, ↓zq_ai, ↓zq_aj, zq_ak, ↓zq_al, ↓zq_am, b1, b22, b46, e_b2, x_o1, x_o2, r_isShelf, r_isIn, q0, g2, g4, g5, g10, p10, l1, l3, w0, q1, u1], by decide, hb.1, hb.2⟩
  · have hb := hup (x := 1) (by decide)
    exact ⟨0, e_up M 192 10 1, by simp [zq_a, zq_b, zq_c, zq_d, zq_e, zq_f, zq_g, zq_h, zq_i, zq_j, zq_k, zq_l, zq_m, zq_n, zq_o, zq_p, zq_q, zq_r, zq_s, zq_t, zq_u, zq_v, zq_w, zq_x, zq_y, zq_z, zq_A, zq_B, zq_C, zq_D, zq_E, zq_F, zq_G, zq_H, zq_I, zq_J, zq_K, zq_L, ↓zq_M, ↓zq_N, ↓zq_O, ↓zq_P, ↓zq_Q, ↓zq_R, zq_S, zq_T, zq_U, zq_V, zq_W, zq_X, zq_Y, zq_Z, zq_0, zq_1, zq_2, zq_3, zq_4, zq_5, ↓zq_6, ↓zq_7, ↓zq_8, ↓zq_9, ↓zq_aa, zq_ab, zq_ac, zq_ad, zq_ae, zq_af, zq_ag, ↓zq_ah, ↓zq_ai, ↓zq_aj, zq_ak, ↓zq_al, ↓zq_am, b1, b22, b46, e_b2, x_o1, x_o2, r_isShelf, r_isIn, q0, g2, g4, g5, g10, p10, u1], by decide, hb.1, hb.2⟩
end
section
/-! image, restore of the reference: exactly -/
def r_cp (M : EM) (s t i : Nat) : EM := fun b j => if b = t ∧ i ≤ j ∧ j < 1330 then M s j else M b j
theorem r_cp_end (M : EM) (s t i : Nat) (h : 1330 ≤ i) : r_cp M s t i = M := by
  funext b j
  exact if_neg (fun hc => by have := hc.2.1; have := hc.2.2; omega)
theorem r_cp_step (M : EM) (s t i : Nat) (h : i < 1330) (hst : s ≠ t) : r_cp (e_up M t i (M s i)) s t (i + 1) = r_cp M s t i := by
  funext b j
  unfold r_cp
  by_cases hb : b = t
  · subst hb
    by_cases h1 : i + 1 ≤ j ∧ j < 1330
    · rw [if_pos ⟨rfl, h1⟩, if_pos ⟨rfl, by omega, h1.2⟩, c_up_n (fun hc => hst hc.1)]
    · rw [if_neg (fun hc => h1 hc.2)]
      by_cases h2 : j = i
      · subst h2
        rw [c_up_s, if_pos ⟨rfl, Nat.le_refl _, h⟩]
      · rw [c_up_n (fun hc => h2 hc.2), if_neg (fun hc => by have := hc.2.1; have := hc.2.2; omega)]
  · rw [if_neg (fun hc => hb hc.1), if_neg (fun hc => hb hc.1), c_up_n (fun hc => hb hc.1)]
theorem r_image_loop : ∀ (m : Nat) (i : Nat) (M : EM), 1330 - i ≤ m → i ≤ 1330 → E_V 255 2 [192, (i : Int)] M = some (M 193 1198, e_up (r_cp M 193 194 i) 192 9 1) := by
  have g0 : ∀ M, e_gf 768 [192] M = some 193 := fun M => r_g 768 193 M (by decide +kernel)
  have g1 : ∀ M, e_gf 769 [192] M = some 194 := fun M => r_g 769 194 M (by decide +kernel)
  have p9 : ∀ v M, e_pf 777 [192, v] M = some (e_up M 192 9 v) := fun v M => c_pf r_ref (by decide +kernel)
  have l0 : ∀ M, e_op 60 [193, 1198] M = some (M 193 1198) := fun M => r_ld (n := 1330) (by decide) (by decide +kernel) (by decide +kernel) (by decide) (by decide)
  have hend : ∀ (i : Nat) (M : EM), ¬ (i < 1330) → E_V 255 2 [192, (i : Int)] M = some (M 193 1198, e_up (r_cp M 193 194 i) 192 9 1) := by
    intro i M hlt
    have hlt' : ¬ ((i : Int) < 1330) := by omega
    have l1 : e_op 60 [193, 1198] (e_up M 192 9 1) = some (M 193 1198) := (l0 _).trans (congrArg some (c_up_n (by decide)))
    rw [r_cp_end M 193 194 i (by omega), E_V_eq]
    show e_tv E_C (E_V 255) e_t255_2 [192, (i : Int)] M = _
    unfold e_t255_2
    simp [zq_a, zq_b, zq_c, zq_d, zq_e, zq_f, zq_g, zq_h, zq_i, zq_j, zq_k, zq_l, zq_m, zq_n, zq_o, zq_p, zq_q, zq_r, zq_s, zq_t, zq_u, zq_v, zq_w, zq_x, zq_y, zq_z, zq_A, zq_B, zq_C, zq_D, zq_E, zq_F, zq_G, zq_H, zq_I, zq_J, zq_K, zq_L, ↓zq_M, ↓zq_N, ↓zq_O, ↓zq_P, ↓zq_Q, ↓zq_R, zq_S, zq_T, zq_U, zq_V, zq_W, zq_X, zq_Y, zq_Z, zq_0, zq_1, zq_2, zq_3, zq_4, zq_5, ↓zq_6, ↓zq_7, ↓zq_8, ↓zq_9, ↓zq_aa, zq_ab, zq_ac, zq_ad, zq_ae, zq_af, zq_ag, ↓zq_ah, ↓zq_ai, ↓zq_aj, zq_ak, ↓zq_al, ↓zq_am, e_b2, x_o2, g0, p9, hlt', l1]
  intro m
  induction m with
  | zero => intro i M hm h1; exact hend i M (by omega)
  | succ m ih =>
    intro i M hm h1
    by_cases hlt : i < 1330
    · have hlt' : (i : Int) < 1330 := by omega
      have w1 : e_w ((i : Int) + 1) = ((i + 1 : Nat) : Int) := by rw [a_w_id (by omega) (by omega)]; omega
      have ld : e_op 60 [193, (i : Int)] M = some (M 193 i) := r_ld (n := 1330) (by decide) (by decide +kernel) (by decide +kernel) (by omega) (by omega)
      have st : e_st 100 [194, (i : Int), M 193 i] M = some (e_up M 194 i (M 193 i)) := r_st (n := 1330) (by decide) (by decide +kernel) (by decide +kernel) (by omega) (by omega)
      have hrec := ih (i + 1) (e_up M 194 i (M 193 i)) (by omega) (by omega)
      rw [r_cp_step M 193 194 i hlt (by decide), c_up_n (fun hc => absurd hc.1 (by decide))] at hrec
      rw [← hrec, E_V_eq]
      show e_tv E_C (E_V 255) e_t255_2 [192, (i : Int)] M = _
      unfold e_t255_2
      simp only [e_tv, e_ev, e_sv]
      simp [e_b2, x_o2, g0, g1, hlt', ld, st, w1]
    · exact hend i M hlt
end
section
theorem r_restore_loop : ∀ (m : Nat) (i : Nat) (M : EM), 1330 - i ≤ m → i ≤ 1330 → E_V 256 12 [192, (i : Int)] M = some (r_cp M 194 193 i 193 1198, r_cp M 194 193 i) := by
  have g0 : ∀ M, e_gf 768 [192] M = some 193 := fun M => r_g 768 193 M (by decide +kernel)
  have g1 : ∀ M, e_gf 769 [192] M = some 194 := fun M => r_g 769 194 M (by decide +kernel)
  have l0 : ∀ M, e_op 60 [193, 1198] M = some (M 193 1198) := fun M => r_ld (n := 1330) (by decide) (by decide +kernel) (by decide +kernel) (by decide) (by decide)
  have hend : ∀ (i : Nat) (M : EM), ¬ (i < 1330) → E_V 256 12 [192, (i : Int)] M = some (r_cp M 194 193 i 193 1198, r_cp M 194 193 i) := by
    intro i M hlt
    have hlt' : ¬ ((i : Int) < 1330) := by omega
    rw [r_cp_end M 194 193 i (by omega), E_V_eq]
    show e_tv E_C (E_V 256) e_t256_12 [192, (i : Int)] M = _
    unfold e_t256_12
    simp [zq_a, zq_b, zq_c, zq_d, zq_e, zq_f, zq_g, zq_h, zq_i, zq_j, zq_k, zq_l, zq_m, zq_n, zq_o, zq_p, zq_q, zq_r, zq_s, zq_t, zq_u, zq_v, zq_w, zq_x, zq_y, zq_z, zq_A, zq_B, zq_C, zq_D, zq_E, zq_F, zq_G, zq_H, zq_I, zq_J, zq_K, zq_L, ↓zq_M, ↓zq_N, ↓zq_O, ↓zq_P, ↓zq_Q, ↓zq_R, zq_S, zq_T, zq_U, zq_V, zq_W, zq_X, zq_Y, zq_Z, zq_0, zq_1, zq_2, zq_3, zq_4, zq_5, ↓zq_6, ↓zq_7, ↓zq_8, ↓zq_9, ↓zq_aa, zq_ab, zq_ac, zq_ad, zq_ae, zq_af, zq_ag, ↓zq_ah, ↓zq_ai, ↓zq_aj, zq_ak, ↓zq_al, ↓zq_am, e_b2, x_o2, g0, hlt', l0]
  intro m
  induction m with
  | zero => intro i M hm h1; exact hend i M (by omega)
  | succ m ih =>
    intro i M hm h1
    by_cases hlt : i < 1330
    · have hlt' : (i : Int) < 1330 := by omega
      have w1 : e_w ((i : Int) + 1) = ((i + 1 : Nat) : Int) := by rw [a_w_id (by omega) (by omega)]; omega
      have ld : e_op 60 [194, (i : Int)] M = some (M 194 i) := r_ld (n := 1330) (by decide) (by decide +kernel) (by decide +kernel) (by omega) (by omega)
      have st : e_st 100 [193, (i : Int), M 194 i] M = some (e_up M 193 i (M 194 i)) := r_st (n := 1330) (by decide) (by decide +kernel) (by decide +kernel) (by omega) (by omega)
      have hrec := ih (i + 1) (e_up M 193 i (M 194 i)) (by omega) (by omega)
      rw [r_cp_step M 194 193 i hlt (by decide)] at hrec
      rw [← hrec, E_V_eq]
      show e_tv E_C (E_V 256) e_t256_12 [192, (i : Int)] M = _
      unfold e_t256_12
      simp only [e_tv, e_ev, e_sv]
      simp [e_b2, x_o2, g0, g1, hlt', ld, st, w1]
    · exact hend i M hlt
theorem r_image (M : EM) : E_C 255 [192] M = some (M 193 1198, e_up (r_cp M 193 194 0) 192 9 1) := by
  have h1 : E_C 255 [192] M = e_tv E_C (E_V 255) e_t255_0 [192, 0] M := by
    unfold E_C
    rw [if_pos (show e_rok 255 [192] = true from decide_eq_true r_ref), E_V_eq]
    rfl
  have h2 := r_image_loop 1330 0 M (by decide) (by decide)
  rw [h1]
  unfold e_t255_0
  simp only [e_tv, e_ev, e_sv]
  simpa using h2
theorem r_restore (M : EM) : E_C 256 [192] M = (if M 192 9 = 0 then some (-3, M) else some (r_cp M 194 193 0 193 1198, r_cp M 194 193 0)) := by
  have h1 : E_C 256 [192] M = e_tv E_C (E_V 256) e_t256_0 [192, 0] M := by
    unfold E_C
    rw [if_pos (show e_rok 256 [192] = true from decide_eq_true r_ref), E_V_eq]
    rfl
  have g9 : ∀ M, e_gf 777 [192] M = some (M 192 9) := fun M => c_gf r_ref (by decide +kernel)
  have b46 : ∀ a, e_b1 46 a = some (if a = 0 then 1 else 0) := fun _ => rfl
  have h2 := r_restore_loop 1330 0 M (by decide) (by decide)
  rw [h1]
  unfold e_t256_0
  by_cases q : M 192 9 = 0
  · rw [if_pos q]
    simp [zq_a, zq_b, zq_c, zq_d, zq_e, zq_f, zq_g, zq_h, zq_i, zq_j, zq_k, zq_l, zq_m, zq_n, zq_o, zq_p, zq_q, zq_r, zq_s, zq_t, zq_u, zq_v, zq_w, zq_x, zq_y, zq_z, zq_A, zq_B, zq_C, zq_D, zq_E, zq_F, zq_G, zq_H, zq_I, zq_J, zq_K, zq_L, ↓zq_M, ↓zq_N, ↓zq_O, ↓zq_P, ↓zq_Q, ↓zq_R, zq_S, zq_T, zq_U, zq_V, zq_W, zq_X, zq_Y, zq_Z, zq_0, zq_1, zq_2, zq_3, zq_4, zq_5, ↓zq_6, ↓zq_7, ↓zq_8, ↓zq_9, ↓zq_aa, zq_ab, zq_ac, zq_ad, zq_ae, zq_af, zq_ag, ↓zq_ah, ↓zq_ai, ↓zq_aj, zq_ak, ↓zq_al, ↓zq_am, e_op, e_b1, g9, q]
  · rw [if_neg q, ← h2]
    simp [zq_a, zq_b, zq_c, zq_d, zq_e, zq_f, zq_g, zq_h, zq_i, zq_j, zq_k, zq_l, zq_m, zq_n, zq_o, zq_p, zq_q, zq_r, zq_s, zq_t, zq_u, zq_v, zq_w, zq_x, zq_y, zq_z, zq_A, zq_B, zq_C, zq_D, zq_E, zq_F, zq_G, zq_H, zq_I, zq_J, zq_K, zq_L, ↓zq_M, ↓zq_N, ↓zq_O, ↓zq_P, ↓zq_Q, ↓zq_R, zq_S, zq_T, zq_U, zq_V, zq_W, zq_X, zq_Y, zq_Z, zq_0, zq_1, zq_2, zq_3, zq_4, zq_5, ↓zq_6, ↓zq_7, ↓zq_8, ↓zq_9, ↓zq_aa, zq_ab, zq_ac, zq_ad, zq_ae, zq_af, zq_ag, ↓zq_ah, ↓zq_ai, ↓zq_aj, zq_ak, ↓zq_al, ↓zq_am, e_op, e_b1, g9, q]
end
section
theorem r_copy_loop {d i e j n : Int} (hd : 0 ≤ d ∧ d ≤ 7) (he : 0 ≤ e ∧ e ≤ 7) (hi : 0 ≤ i ∧ i + n ≤ 120) (hj : 0 ≤ j ∧ j + n ≤ 120) (hn : 0 ≤ n) : ∀ (m : Nat) (q y : Int) (M : EM), a_M M → (n - q).toNat ≤ m → 0 ≤ q → q ≤ n → ∃ M', E_V 262 122 [192, d, i, e, j, n, q, y] M = some (n, M') ∧ a_M M' ∧ a_fr [(198, 0, 959)] M M' := by
  have g5 : ∀ M, e_gf 773 [192] M = some 198 := fun M => r_g 773 198 M (by decide +kernel)
  have hend : ∀ (q y : Int) (M : EM), a_M M → ¬ (q < n) → ∃ M', E_V 262 122 [192, d, i, e, j, n, q, y] M = some (n, M') ∧ a_M M' ∧ a_fr [(198, 0, 959)] M M' := by
    intro q y M hM hlt
    refine ⟨M, ?_, hM, a_fr_rf⟩
    rw [E_V_eq]
    show e_tv E_C (E_V 262) e_t262_122 [192, d, i, e, j, n, q, y] M = _
    unfold e_t262_122
    simp [zq_a, zq_b, zq_c, zq_d, zq_e, zq_f, zq_g, zq_h, zq_i, zq_j, zq_k, zq_l, zq_m, zq_n, zq_o, zq_p, zq_q, zq_r, zq_s, zq_t, zq_u, zq_v, zq_w, zq_x, zq_y, zq_z, zq_A, zq_B, zq_C, zq_D, zq_E, zq_F, zq_G, zq_H, zq_I, zq_J, zq_K, zq_L, ↓zq_M, ↓zq_N, ↓zq_O, ↓zq_P, ↓zq_Q, ↓zq_R, zq_S, zq_T, zq_U, zq_V, zq_W, zq_X, zq_Y, zq_Z, zq_0, zq_1, zq_2, zq_3, zq_4, zq_5, ↓zq_6, ↓zq_7, ↓zq_8, ↓zq_9, ↓zq_aa, zq_ab, zq_ac, zq_ad, zq_ae, zq_af, zq_ag, ↓zq_ah, ↓zq_ai, ↓zq_aj, zq_ak, ↓zq_al, ↓zq_am, e_b2, x_o2, hlt]
  intro m
  induction m with
  | zero => intro q y M hM hm h0 h1; exact hend q y M hM (by omega)
  | succ m ih =>
    intro q y M hM hm h0 h1
    by_cases hlt : q < n
    · have w1 : e_w (q + 1) = q + 1 := a_w_id (by omega) (by omega)
      have w2 : e_w (120 * d) = 120 * d := a_w_id (by omega) (by omega)
      have w3 : e_w (120 * e) = 120 * e := a_w_id (by omega) (by omega)
      have w4 : e_w (120 * d + i) = 120 * d + i := a_w_id (by omega) (by omega)
      have w5 : e_w (120 * e + j) = 120 * e + j := a_w_id (by omega) (by omega)
      have w6 : e_w (n - 1) = n - 1 := a_w_id (by omega) (by omega)
      have w7 : e_w (n - 1 - q) = n - 1 - q := a_w_id (by omega) (by omega)
      have hone : ∀ z, 0 ≤ z → z < n → ∃ M1, e_w (120 * d + i + z) = 120 * d + i + z ∧ e_w (120 * e + j + z) = 120 * e + j + z ∧ e_op 60 [198, 120 * d + i + z] M = some (M 198 (120 * d + i + z).toNat) ∧ e_st 100 [198, 120 * e + j + z, M 198 (120 * d + i + z).toNat] M = some M1 ∧ a_M M1 ∧ a_fr [(198, 0, 959)] M M1 := by
        intro z z0 z1
        refine ⟨_, a_w_id (by omega) (by omega), a_w_id (by omega) (by omega), r_ld (n := 960) (by decide) (by decide +kernel) (by decide +kernel) (by omega) (by omega), r_st (n := 960) (by decide) (by decide +kernel) (by decide +kernel) (by omega) (by omega), r_up (by decide) (by decide +kernel) (by decide +kernel) (c_M32 hM (by decide) (by decide +kernel)) hM, fun b k hw => c_up_n (fun hc => hw _ List.mem_cons_self ⟨hc.1.symm, Nat.zero_le _, ?_⟩)⟩
        have := hc.2
        show k ≤ 959
        omega
      by_cases hc : j < i
      · obtain ⟨M1, u1, u2, u3, u4, u5, u6⟩ := hone q h0 hlt
        obtain ⟨M2, k1, k2, k3⟩ := ih (q + 1) q M1 u5 (by omega) (by omega) (by omega)
        refine ⟨M2, ?_, k2, a_fr_tr u6 k3⟩
        rw [E_V_eq]
        show e_tv E_C (E_V 262) e_t262_122 [192, d, i, e, j, n, q, y] M = _
        unfold e_t262_122
        simp [zq_a, zq_b, zq_c, zq_d, zq_e, zq_f, zq_g, zq_h, zq_i, zq_j, zq_k, zq_l, zq_m, zq_n, zq_o, zq_p, zq_q, zq_r, zq_s, zq_t, zq_u, zq_v, zq_w, zq_x, zq_y, zq_z, zq_A, zq_B, zq_C, zq_D, zq_E, zq_F, zq_G, zq_H, zq_I, zq_J, zq_K, zq_L, ↓zq_M, ↓zq_N, ↓zq_O, ↓zq_P, ↓zq_Q, ↓zq_R, zq_S, zq_T, zq_U, zq_V, zq_W, zq_X, zq_Y, zq_Z, zq_0, zq_1, zq_2, zq_3, zq_4, zq_5, ↓zq_6, ↓zq_7, ↓zq_8, ↓zq_9, ↓zq_aa, zq_ab, zq_ac, zq_ad, zq_ae, zq_af, zq_ag, ↓zq_ah, ↓zq_ai, ↓zq_aj, zq_ak, ↓zq_al, ↓zq_am, e_b2, x_o2, hlt, hc, g5, w1, w2, w3, w4, w5, u1, u2, u3, u4, k1]
      · obtain ⟨M1, u1, u2, u3, u4, u5, u6⟩ := hone (n - 1 - q) (by omega) (by omega)
        obtain ⟨M2, k1, k2, k3⟩ := ih (q + 1) (n - 1 - q) M1 u5 (by omega) (by omega) (by omega)
        refine ⟨M2, ?_, k2, a_fr_tr u6 k3⟩
        rw [E_V_eq]
        show e_tv E_C (E_V 262) e_t262_122 [192, d, i, e, j, n, q, y] M = _
        unfold e_t262_122
        simp [zq_a, zq_b, zq_c, zq_d, zq_e, zq_f, zq_g, zq_h, zq_i, zq_j, zq_k, zq_l, zq_m, zq_n, zq_o, zq_p, zq_q, zq_r, zq_s, zq_t, zq_u, zq_v, zq_w, zq_x, zq_y, zq_z, zq_A, zq_B, zq_C, zq_D, zq_E, zq_F, zq_G, zq_H, zq_I, zq_J, zq_K, zq_L, ↓zq_M, ↓zq_N, ↓zq_O, ↓zq_P, ↓zq_Q, ↓zq_R, zq_S, zq_T, zq_U, zq_V, zq_W, zq_X, zq_Y, zq_Z, zq_0, zq_1, zq_2, zq_3, zq_4, zq_5, ↓zq_6, ↓zq_7, ↓zq_8, ↓zq_9, ↓zq_aa, zq_ab, zq_ac, zq_ad, zq_ae, zq_af, zq_ag, ↓zq_ah, ↓zq_ai, ↓zq_aj, zq_ak, ↓zq_al, ↓zq_am, e_b2, x_o2, hlt, hc, g5, w1, w2, w3, w4, w5, w6, w7, u1, u2, u3, u4, k1]
    · exact hend q y M hM hlt
theorem r_copy {d i e j n : Int} {M : EM} (hM : a_M M) (hI : r_I M) (hn : -2147483648 ≤ n ∧ n ≤ 2147483647) (hi : -2147483648 ≤ i ∧ i ≤ 2147483647) (hj : -2147483648 ≤ j ∧ j ≤ 2147483647) : ∃ r M', E_C 262 [192, d, i, e, j, n] M = some (r, M') ∧ a_M M' ∧ a_fr [(198, 0, 959)] M M' := by
  have h1 : E_C 262 [192, d, i, e, j, n] M = e_tv E_C (E_V 262) e_t262_0 [192, d, i, e, j, n, 0, 0] M := by
    unfold E_C
    rw [if_pos (show e_rok 262 [192, d, i, e, j, n] = true from decide_eq_true r_ref), E_V_eq]
    rfl
  have g2 : ∀ M, e_gf 770 [192] M = some 195 := fun M => r_g 770 195 M (by decide +kernel)
  have g3 : ∀ M, e_gf 771 [192] M = some 196 := fun M => r_g 771 196 M (by decide +kernel)
  have g4 : ∀ M, e_gf 772 [192] M = some 197 := fun M => r_g 772 197 M (by decide +kernel)
  rw [h1]
  unfold e_t262_0
  by_cases q0 : 0 ≤ d ∧ d ≤ 7
  · by_cases q1 : 0 ≤ e ∧ e ≤ 7
    · obtain ⟨l1, l2, l3, -, -, -⟩ := r_isD d M q0
      obtain ⟨m1, m2, m3, -, -, -⟩ := r_isD e M q1
      have hz := hI d.toNat (by omega)
      have hz' := hI e.toNat (by omega)
      by_cases a1 : M 195 d.toNat = 0
      · exact ⟨-11, M, by simp [zq_a, zq_b, zq_c, zq_d, zq_e, zq_f, zq_g, zq_h, zq_i, zq_j, zq_k, zq_l, zq_m, zq_n, zq_o, zq_p, zq_q, zq_r, zq_s, zq_t, zq_u, zq_v, zq_w, zq_x, zq_y, zq_z, zq_A, zq_B, zq_C, zq_D, zq_E, zq_F, zq_G, zq_H, zq_I, zq_J, zq_K, zq_L, ↓zq_M, ↓zq_N, ↓zq_O, ↓zq_P, ↓zq_Q, ↓zq_R, zq_S, zq_T, zq_U, zq_V, zq_W, zq_X, zq_Y, zq_Z, zq_0, zq_1, zq_2, zq_3, zq_4, zq_5, ↓zq_6, ↓zq_7, ↓zq_8, ↓zq_9, ↓zq_aa, zq_ab, zq_ac, zq_ad, zq_ae, zq_af, zq_ag, ↓zq_ah, ↓zq_ai, ↓zq_aj, zq_ak, ↓zq_al, ↓zq_am, e_b1, e_b2, x_o1, x_o2, r_isShelf, q0, q1, g2, l1, m1, a1], hM, a_fr_rf⟩
      by_cases a2 : M 195 e.toNat = 0
      · exact ⟨-11, M, by simp [zq_a, zq_b, zq_c, zq_d, zq_e, zq_f, zq_g, zq_h, zq_i, zq_j, zq_k, zq_l, zq_m, zq_n, zq_o, zq_p, zq_q, zq_r, zq_s, zq_t, zq_u, zq_v, zq_w, zq_x, zq_y, zq_z, zq_A, zq_B, zq_C, zq_D, zq_E, zq_F, zq_G, zq_H, zq_I, zq_J, zq_K, zq_L, ↓zq_M, ↓zq_N, ↓zq_O, ↓zq_P, ↓zq_Q, ↓zq_R, zq_S, zq_T, zq_U, zq_V, zq_W, zq_X, zq_Y, zq_Z, zq_0, zq_1, zq_2, zq_3, zq_4, zq_5, ↓zq_6, ↓zq_7, ↓zq_8, ↓zq_9, ↓zq_aa, zq_ab, zq_ac, zq_ad, zq_ae, zq_af, zq_ag, ↓zq_ah, ↓zq_ai, ↓zq_aj, zq_ak, ↓zq_al, ↓zq_am, e_b1, e_b2, x_o1, x_o2, r_isShelf, q0, q1, g2, l1, m1, a1, a2], hM, a_fr_rf⟩
      by_cases a3 : M 195 d.toNat = 2
      · by_cases a4 : M 195 e.toNat = 2
        · by_cases a5 : M 196 d.toNat = M 196 e.toNat
          · skip
            by_cases c1 : 0 ≤ n
            · by_cases c2 : 0 ≤ i
              · by_cases c3 : 0 ≤ j
                · have v1 : e_w (M 197 d.toNat - i) = M 197 d.toNat - i := a_w_id (by omega) (by omega)
                  have v2 : e_w (M 197 e.toNat - j) = M 197 e.toNat - j := a_w_id (by omega) (by omega)
                  have d1 : ¬ (n < 0) := by omega
                  have d2 : ¬ (i < 0) := by omega
                  have d3 : ¬ (j < 0) := by omega
                  by_cases c4 : n ≤ M 197 d.toNat - i
                  · by_cases c5 : M 197 e.toNat - j < n
                    · exact ⟨-13, M, by simp [zq_a, zq_b, zq_c, zq_d, zq_e, zq_f, zq_g, zq_h, zq_i, zq_j, zq_k, zq_l, zq_m, zq_n, zq_o, zq_p, zq_q, zq_r, zq_s, zq_t, zq_u, zq_v, zq_w, zq_x, zq_y, zq_z, zq_A, zq_B, zq_C, zq_D, zq_E, zq_F, zq_G, zq_H, zq_I, zq_J, zq_K, zq_L, ↓zq_M, ↓zq_N, ↓zq_O, ↓zq_P, ↓zq_Q, ↓zq_R, zq_S, zq_T, zq_U, zq_V, zq_W, zq_X, zq_Y, zq_Z, zq_0, zq_1, zq_2, zq_3, zq_4, zq_5, ↓zq_6, ↓zq_7, ↓zq_8, ↓zq_9, ↓zq_aa, zq_ab, zq_ac, zq_ad, zq_ae, zq_af, zq_ag, ↓zq_ah, ↓zq_ai, ↓zq_aj, zq_ak, ↓zq_al, ↓zq_am, e_b1, e_b2, x_o1, x_o2, r_isShelf, q0, q1, g2, g3, g4, l1, m1, l2, m2, l3, m3, a3, a4, a5, c1, c2, c3, d1, d2, d3, v1, v2, c4, c5], hM, a_fr_rf⟩
                    · obtain ⟨M', k1, k2, k3⟩ := r_copy_loop (i := i) (j := j) q0 q1 ⟨c2, by omega⟩ ⟨c3, by omega⟩ c1 n.toNat 0 0 M hM (by omega) (by decide) c1
                      have d4 : ¬ (M 197 d.toNat - i < n) := by omega
                      exact ⟨n, M', by simp [zq_a, zq_b, zq_c, zq_d, zq_e, zq_f, zq_g, zq_h, zq_i, zq_j, zq_k, zq_l, zq_m, zq_n, zq_o, zq_p, zq_q, zq_r, zq_s, zq_t, zq_u, zq_v, zq_w, zq_x, zq_y, zq_z, zq_A, zq_B, zq_C, zq_D, zq_E, zq_F, zq_G, zq_H, zq_I, zq_J, zq_K, zq_L, ↓zq_M, ↓zq_N, ↓zq_O, ↓zq_P, ↓zq_Q, ↓zq_R, zq_S, zq_T, zq_U, zq_V, zq_W, zq_X, zq_Y, zq_Z, zq_0, zq_1, zq_2, zq_3, zq_4, zq_5, ↓zq_6, ↓zq_7, ↓zq_8, ↓zq_9, ↓zq_aa, zq_ab, zq_ac, zq_ad, zq_ae, zq_af, zq_ag, ↓zq_ah, ↓zq_ai, ↓zq_aj, zq_ak, ↓zq_al, ↓zq_am, e_b1, e_b2, x_o1, x_o2, r_isShelf, q0, q1, g2, g3, g4, l1, m1, l2, m2, l3, m3, a3, a4, a5, c1, c2, c3, d1, d2, d3, v1, v2, c4, c5, d4, k1], k2, k3⟩
                  · have d4 : M 197 d.toNat - i < n := by omega
                    exact ⟨-13, M, by simp [zq_a, zq_b, zq_c, zq_d, zq_e, zq_f, zq_g, zq_h, zq_i, zq_j, zq_k, zq_l, zq_m, zq_n, zq_o, zq_p, zq_q, zq_r, zq_s, zq_t, zq_u, zq_v, zq_w, zq_x, zq_y, zq_z, zq_A, zq_B, zq_C, zq_D, zq_E, zq_F, zq_G, zq_H, zq_I, zq_J, zq_K, zq_L, ↓zq_M, ↓zq_N, ↓zq_O, ↓zq_P, ↓zq_Q, ↓zq_R, zq_S, zq_T, zq_U, zq_V, zq_W, zq_X, zq_Y, zq_Z, zq_0, zq_1, zq_2, zq_3, zq_4, zq_5, ↓zq_6, ↓zq_7, ↓zq_8, ↓zq_9, ↓zq_aa, zq_ab, zq_ac, zq_ad, zq_ae, zq_af, zq_ag, ↓zq_ah, ↓zq_ai, ↓zq_aj, zq_ak, ↓zq_al, ↓zq_am, e_b1, e_b2, x_o1, x_o2, r_isShelf, q0, q1, g2, g3, g4, l1, m1, l2, m2, l3, m3, a3, a4, a5, c1, c2, c3, d1, d2, d3, v1, v2, c4, d4], hM, a_fr_rf⟩
                · have d3 : j < 0 := by omega
                  have d1 : ¬ (n < 0) := by omega
                  have d2 : ¬ (i < 0) := by omega
                  exact ⟨-13, M, by simp [zq_a, zq_b, zq_c, zq_d, zq_e, zq_f, zq_g, zq_h, zq_i, zq_j, zq_k, zq_l, zq_m, zq_n, zq_o, zq_p, zq_q, zq_r, zq_s, zq_t, zq_u, zq_v, zq_w, zq_x, zq_y, zq_z, zq_A, zq_B, zq_C, zq_D, zq_E, zq_F, zq_G, zq_H, zq_I, zq_J, zq_K, zq_L, ↓zq_M, ↓zq_N, ↓zq_O, ↓zq_P, ↓zq_Q, ↓zq_R, zq_S, zq_T, zq_U, zq_V, zq_W, zq_X, zq_Y, zq_Z, zq_0, zq_1, zq_2, zq_3, zq_4, zq_5, ↓zq_6, ↓zq_7, ↓zq_8, ↓zq_9, ↓zq_aa, zq_ab, zq_ac, zq_ad, zq_ae, zq_af, zq_ag, ↓zq_ah, ↓zq_ai, ↓zq_aj, zq_ak, ↓zq_al, ↓zq_am, e_b1, e_b2, x_o1, x_o2, r_isShelf, q0, q1, g2, g3, g4, l1, m1, l2, m2, a3, a4, a5, c1, c2, c3, d1, d2, d3], hM, a_fr_rf⟩
              · have d2 : i < 0 := by omega
                have d1 : ¬ (n < 0) := by omega
                exact ⟨-13, M, by simp [zq_a, zq_b, zq_c, zq_d, zq_e, zq_f, zq_g, zq_h, zq_i, zq_j, zq_k, zq_l, zq_m, zq_n, zq_o, zq_p, zq_q, zq_r, zq_s, zq_t, zq_u, zq_v, zq_w, zq_x, zq_y, zq_z, zq_A, zq_B, zq_C, zq_D, zq_E, zq_F, zq_G, zq_H, zq_I, zq_J, zq_K, zq_L, ↓zq_M, ↓zq_N, ↓zq_O, ↓zq_P, ↓zq_Q, ↓zq_R, zq_S, zq_T, zq_U, zq_V, zq_W, zq_X, zq_Y, zq_Z, zq_0, zq_1, zq_2, zq_3, zq_4, zq_5, ↓zq_6, ↓zq_7, ↓zq_8, ↓zq_9, ↓zq_aa, zq_ab, zq_ac, zq_ad, zq_ae, zq_af, zq_ag, ↓zq_ah, ↓zq_ai, ↓zq_aj, zq_ak, ↓zq_al, ↓zq_am, e_b1, e_b2, x_o1, x_o2, r_isShelf, q0, q1, g2, g3, g4, l1, m1, l2, m2, a3, a4, a5, c1, c2, d1, d2], hM, a_fr_rf⟩
            · have d1 : n < 0 := by omega
              exact ⟨-13, M, by simp [zq_a, zq_b, zq_c, zq_d, zq_e, zq_f, zq_g, zq_h, zq_i, zq_j, zq_k, zq_l, zq_m, zq_n, zq_o, zq_p, zq_q, zq_r, zq_s, zq_t, zq_u, zq_v, zq_w, zq_x, zq_y, zq_z, zq_A, zq_B, zq_C, zq_D, zq_E, zq_F, zq_G, zq_H, zq_I, zq_J, zq_K, zq_L, ↓zq_M, ↓zq_N, ↓zq_O, ↓zq_P, ↓zq_Q, ↓zq_R, zq_S, zq_T, zq_U, zq_V, zq_W, zq_X, zq_Y, zq_Z, zq_0, zq_1, zq_2, zq_3, zq_4, zq_5, ↓zq_6, ↓zq_7, ↓zq_8, ↓zq_9, ↓zq_aa, zq_ab, zq_ac, zq_ad, zq_ae, zq_af, zq_ag, ↓zq_ah, ↓zq_ai, ↓zq_aj, zq_ak, ↓zq_al, ↓zq_am, e_b1, e_b2, x_o1, x_o2, r_isShelf, q0, q1, g2, g3, g4, l1, m1, l2, m2, a3, a4, a5, c1, d1], hM, a_fr_rf⟩
          · exact ⟨-12, M, by simp [zq_a, zq_b, zq_c, zq_d, zq_e, zq_f, zq_g, zq_h, zq_i, zq_j, zq_k, zq_l, zq_m, zq_n, zq_o, zq_p, zq_q, zq_r, zq_s, zq_t, zq_u, zq_v, zq_w, zq_x, zq_y, zq_z, zq_A, zq_B, zq_C, zq_D, zq_E, zq_F, zq_G, zq_H, zq_I, zq_J, zq_K, zq_L, ↓zq_M, ↓zq_N, ↓zq_O, ↓zq_P, ↓zq_Q, ↓zq_R, zq_S, zq_T, zq_U, zq_V, zq_W, zq_X, zq_Y, zq_Z, zq_0, zq_1, zq_2, zq_3, zq_4, zq_5, ↓zq_6, ↓zq_7, ↓zq_8, ↓zq_9, ↓zq_aa, zq_ab, zq_ac, zq_ad, zq_ae, zq_af, zq_ag, ↓zq_ah, ↓zq_ai, ↓zq_aj, zq_ak, ↓zq_al, ↓zq_am, e_b1, e_b2, x_o1, x_o2, r_isShelf, q0, q1, g2, g3, l1, m1, l2, m2, a3, a4, a5], hM, a_fr_rf⟩
        · exact ⟨-12, M, by simp [zq_a, zq_b, zq_c, zq_d, zq_e, zq_f, zq_g, zq_h, zq_i, zq_j, zq_k, zq_l, zq_m, zq_n, zq_o, zq_p, zq_q, zq_r, zq_s, zq_t, zq_u, zq_v, zq_w, zq_x, zq_y, zq_z, zq_A, zq_B, zq_C, zq_D, zq_E, zq_F, zq_G, zq_H, zq_I, zq_J, zq_K, zq_L, ↓zq_M, ↓zq_N, ↓zq_O, ↓zq_P, ↓zq_Q, ↓zq_R, zq_S, zq_T, zq_U, zq_V, zq_W, zq_X, zq_Y, zq_Z, zq_0, zq_1, zq_2, zq_3, zq_4, zq_5, ↓zq_6, ↓zq_7, ↓zq_8, ↓zq_9, ↓zq_aa, zq_ab, zq_ac, zq_ad, zq_ae, zq_af, zq_ag, ↓zq_ah, ↓zq_ai, ↓zq_aj, zq_ak, ↓zq_al, ↓zq_am, e_b1, e_b2, x_o1, x_o2, r_isShelf, q0, q1, g2, g3, l1, m1, a2, a3, a4], hM, a_fr_rf⟩
      · exact ⟨-12, M, by simp [zq_a, zq_b, zq_c, zq_d, zq_e, zq_f, zq_g, zq_h, zq_i, zq_j, zq_k, zq_l, zq_m, zq_n, zq_o, zq_p, zq_q, zq_r, zq_s, zq_t, zq_u, zq_v, zq_w, zq_x, zq_y, zq_z, zq_A, zq_B, zq_C, zq_D, zq_E, zq_F, zq_G, zq_H, zq_I, zq_J, zq_K, zq_L, ↓zq_M, ↓zq_N, ↓zq_O, ↓zq_P, ↓zq_Q, ↓zq_R, zq_S, zq_T, zq_U, zq_V, zq_W, zq_X, zq_Y, zq_Z, zq_0, zq_1, zq_2, zq_3, zq_4, zq_5, ↓zq_6, ↓zq_7, ↓zq_8, ↓zq_9, ↓zq_aa, zq_ab, zq_ac, zq_ad, zq_ae, zq_af, zq_ag, ↓zq_ah, ↓zq_ai, ↓zq_aj, zq_ak, ↓zq_al, ↓zq_am, e_b1, e_b2, x_o1, x_o2, r_isShelf, q0, q1, g2, g3, l1, m1, a1, a2, a3], hM, a_fr_rf⟩
    · exact ⟨-1, M, by simp [zq_a, zq_b, zq_c, zq_d, zq_e, zq_f, zq_g, zq_h, zq_i, zq_j, zq_k, zq_l, zq_m, zq_n, zq_o, zq_p, zq_q, zq_r, zq_s, zq_t, zq_u, zq_v, zq_w, zq_x, zq_y, zq_z, zq_A, zq_B, zq_C, zq_D, zq_E, zq_F, zq_G, zq_H, zq_I, zq_J, zq_K, zq_L, ↓zq_M, ↓zq_N, ↓zq_O, ↓zq_P, ↓zq_Q, ↓zq_R, zq_S, zq_T, zq_U, zq_V, zq_W, zq_X, zq_Y, zq_Z, zq_0, zq_1, zq_2, zq_3, zq_4, zq_5, ↓zq_6, ↓zq_7, ↓zq_8, ↓zq_9, ↓zq_aa, zq_ab, zq_ac, zq_ad, zq_ae, zq_af, zq_ag, ↓zq_ah, ↓zq_ai, ↓zq_aj, zq_ak, ↓zq_al, ↓zq_am, e_b1, e_b2, x_o1, x_o2, r_isShelf, q0, q1], hM, a_fr_rf⟩
  · exact ⟨-1, M, by simp [zq_a, zq_b, zq_c, zq_d, zq_e, zq_f, zq_g, zq_h, zq_i, zq_j, zq_k, zq_l, zq_m, zq_n, zq_o, zq_p, zq_q, zq_r, zq_s, zq_t, zq_u, zq_v, zq_w, zq_x, zq_y, zq_z, zq_A, zq_B, zq_C, zq_D, zq_E, zq_F, zq_G, zq_H, zq_I, zq_J, zq_K, zq_L, ↓zq_M, ↓zq_N, ↓zq_O, ↓zq_P, ↓zq_Q, ↓zq_R, zq_S, zq_T, zq_U, zq_V, zq_W, zq_X, zq_Y, zq_Z, zq_0, zq_1, zq_2, zq_3, zq_4, zq_5, ↓zq_6, ↓zq_7, ↓zq_8, ↓zq_9, ↓zq_aa, zq_ab, zq_ac, zq_ad, zq_ae, zq_af, zq_ag, ↓zq_ah, ↓zq_ai, ↓zq_aj, zq_ak, ↓zq_al, ↓zq_am, e_b1, e_b2, x_o1, x_o2, r_isShelf, q0], hM, a_fr_rf⟩
end
section
/-! the reference's row s: COUNT at 1198, a part p from 28 p on (kind, what it stands in, how many members, members) -/
def r_N (M : EM) : Prop := 0 ≤ M 193 1198 ∧ M 193 1198 ≤ 40
theorem r_s {i : Int} {M : EM} (h0 : 0 ≤ i) (hi : i < 1330) : e_op 60 [193, i] M = some (M 193 i.toNat) := r_ld (n := 1330) (by decide) (by decide +kernel) (by decide +kernel) h0 hi
theorem r_g0 (M : EM) : e_gf 768 [192] M = some 193 := r_g 768 193 M (by decide +kernel)
theorem r_isPart {p : Int} {M : EM} (hN : r_N M) : E_C 169 [192, p] M = some (if 0 ≤ p ∧ p < M 193 1198 then 1 else 0, M) := by
  have h1 : E_C 169 [192, p] M = e_tv E_C (E_V 169) e_t169_0 [192, p] M := by
    unfold E_C
    rw [if_pos (show e_rok 169 [192, p] = true from decide_eq_true r_ref), E_V_eq]
    rfl
  obtain ⟨n1, n2⟩ := hN
  have w : e_w (M 193 1198 - 1) = M 193 1198 - 1 := a_w_id (by omega) (by omega)
  have l : e_op 60 [193, 1198] M = some (M 193 1198) := r_s (by decide) (by decide)
  rw [h1]
  unfold e_t169_0
  by_cases q0 : 0 ≤ p
  · by_cases q1 : p < M 193 1198
    · have q2 : p ≤ M 193 1198 - 1 := by omega
      simp [zq_a, zq_b, zq_c, zq_d, zq_e, zq_f, zq_g, zq_h, zq_i, zq_j, zq_k, zq_l, zq_m, zq_n, zq_o, zq_p, zq_q, zq_r, zq_s, zq_t, zq_u, zq_v, zq_w, zq_x, zq_y, zq_z, zq_A, zq_B, zq_C, zq_D, zq_E, zq_F, zq_G, zq_H, zq_I, zq_J, zq_K, zq_L, ↓zq_M, ↓zq_N, ↓zq_O, ↓zq_P, ↓zq_Q, ↓zq_R, zq_S, zq_T, zq_U, zq_V, zq_W, zq_X, zq_Y, zq_Z, zq_0, zq_1, zq_2, zq_3, zq_4, zq_5, ↓zq_6, ↓zq_7, ↓zq_8, ↓zq_9, ↓zq_aa, zq_ab, zq_ac, zq_ad, zq_ae, zq_af, zq_ag, ↓zq_ah, ↓zq_ai, ↓zq_aj, zq_ak, ↓zq_al, ↓zq_am, e_b1, e_b2, x_o1, x_o2, r_g0, l, w, r_isIn, q0, q1, q2]
    · have q2 : ¬ (p ≤ M 193 1198 - 1) := by omega
      simp [zq_a, zq_b, zq_c, zq_d, zq_e, zq_f, zq_g, zq_h, zq_i, zq_j, zq_k, zq_l, zq_m, zq_n, zq_o, zq_p, zq_q, zq_r, zq_s, zq_t, zq_u, zq_v, zq_w, zq_x, zq_y, zq_z, zq_A, zq_B, zq_C, zq_D, zq_E, zq_F, zq_G, zq_H, zq_I, zq_J, zq_K, zq_L, ↓zq_M, ↓zq_N, ↓zq_O, ↓zq_P, ↓zq_Q, ↓zq_R, zq_S, zq_T, zq_U, zq_V, zq_W, zq_X, zq_Y, zq_Z, zq_0, zq_1, zq_2, zq_3, zq_4, zq_5, ↓zq_6, ↓zq_7, ↓zq_8, ↓zq_9, ↓zq_aa, zq_ab, zq_ac, zq_ad, zq_ae, zq_af, zq_ag, ↓zq_ah, ↓zq_ai, ↓zq_aj, zq_ak, ↓zq_al, ↓zq_am, e_b1, e_b2, x_o1, x_o2, r_g0, l, w, r_isIn, q0, q1, q2]
  · simp [zq_a, zq_b, zq_c, zq_d, zq_e, zq_f, zq_g, zq_h, zq_i, zq_j, zq_k, zq_l, zq_m, zq_n, zq_o, zq_p, zq_q, zq_r, zq_s, zq_t, zq_u, zq_v, zq_w, zq_x, zq_y, zq_z, zq_A, zq_B, zq_C, zq_D, zq_E, zq_F, zq_G, zq_H, zq_I, zq_J, zq_K, zq_L, ↓zq_M, ↓zq_N, ↓zq_O, ↓zq_P, ↓zq_Q, ↓zq_R, zq_S, zq_T, zq_U, zq_V, zq_W, zq_X, zq_Y, zq_Z, zq_0, zq_1, zq_2, zq_3, zq_4, zq_5, ↓zq_6, ↓zq_7, ↓zq_8, ↓zq_9, ↓zq_aa, zq_ab, zq_ac, zq_ad, zq_ae, zq_af, zq_ag, ↓zq_ah, ↓zq_ai, ↓zq_aj, zq_ak, ↓zq_al, ↓zq_am, e_b1, e_b2, x_o1, x_o2, r_g0, l, w, r_isIn, q0]
theorem r_kind {p : Int} {M : EM} (hp : 0 ≤ p ∧ p < 40) : E_C 170 [192, p] M = some (M 193 (28 * p).toNat, M) := by
  have h1 : E_C 170 [192, p] M = e_tv E_C (E_V 170) e_t170_0 [192, p] M := by
    unfold E_C
    rw [if_pos (show e_rok 170 [192, p] = true from decide_eq_true r_ref), E_V_eq]
    rfl
  have w : e_w (28 * p) = 28 * p := a_w_id (by omega) (by omega)
  have l : e_op 60 [193, 28 * p] M = some (M 193 (28 * p).toNat) := r_s (by omega) (by omega)
  rw [h1]
  unfold e_t170_0
  simp [e_tv, e_ev, e_b2, x_o2, r_g0, w, l]
theorem r_many {p : Int} {M : EM} (hp : 0 ≤ p ∧ p < 40) : E_C 171 [192, p] M = some (M 193 (28 * p + 2).toNat, M) := by
  have h1 : E_C 171 [192, p] M = e_tv E_C (E_V 171) e_t171_0 [192, p] M := by
    unfold E_C
    rw [if_pos (show e_rok 171 [192, p] = true from decide_eq_true r_ref), E_V_eq]
    rfl
  have w : e_w (28 * p) = 28 * p := a_w_id (by omega) (by omega)
  have w2 : e_w (28 * p + 2) = 28 * p + 2 := a_w_id (by omega) (by omega)
  have l : e_op 60 [193, 28 * p + 2] M = some (M 193 (28 * p + 2).toNat) := r_s (by omega) (by omega)
  rw [h1]
  unfold e_t171_0
  simp [e_tv, e_ev, e_b2, x_o2, r_g0, w, w2, l]
theorem r_of {p k : Int} {M : EM} (hp : 0 ≤ p ∧ p < 40) (hk : 0 ≤ k ∧ k < 200) : E_C 172 [192, p, k] M = some (M 193 (28 * p + 3 + k).toNat, M) := by
  have h1 : E_C 172 [192, p, k] M = e_tv E_C (E_V 172) e_t172_0 [192, p, k] M := by
    unfold E_C
    rw [if_pos (show e_rok 172 [192, p, k] = true from decide_eq_true r_ref), E_V_eq]
    rfl
  have w : e_w (28 * p) = 28 * p := a_w_id (by omega) (by omega)
  have w2 : e_w (28 * p + 3) = 28 * p + 3 := a_w_id (by omega) (by omega)
  have w3 : e_w (28 * p + 3 + k) = 28 * p + 3 + k := a_w_id (by omega) (by omega)
  have l : e_op 60 [193, 28 * p + 3 + k] M = some (M 193 (28 * p + 3 + k).toNat) := r_s (by omega) (by omega)
  rw [h1]
  unfold e_t172_0
  simp [e_tv, e_ev, e_b2, x_o2, r_g0, w, w2, w3, l]
end
section
theorem r_count_a {w : Int} {M : EM} (hN : r_N M) : ∀ (m : Nat) (c i : Int), (M 193 1198 - i).toNat ≤ m → 0 ≤ i → i ≤ M 193 1198 → ∃ r, E_V 257 63 [192, w, c, i] M = some (r, M) := by
  have l : e_op 60 [193, 1198] M = some (M 193 1198) := r_s (by decide) (by decide)
  have hN' := hN
  obtain ⟨n1, n2⟩ := hN'
  have hend : ∀ (c i : Int), ¬ (i < M 193 1198) → ∃ r, E_V 257 63 [192, w, c, i] M = some (r, M) := by
    intro c i hlt
    refine ⟨c, ?_⟩
    rw [E_V_eq]
    show e_tv E_C (E_V 257) e_t257_63 [192, w, c, i] M = _
    unfold e_t257_63
    simp [zq_a, zq_b, zq_c, zq_d, zq_e, zq_f, zq_g, zq_h, zq_i, zq_j, zq_k, zq_l, zq_m, zq_n, zq_o, zq_p, zq_q, zq_r, zq_s, zq_t, zq_u, zq_v, zq_w, zq_x, zq_y, zq_z, zq_A, zq_B, zq_C, zq_D, zq_E, zq_F, zq_G, zq_H, zq_I, zq_J, zq_K, zq_L, ↓zq_M, ↓zq_N, ↓zq_O, ↓zq_P, ↓zq_Q, ↓zq_R, zq_S, zq_T, zq_U, zq_V, zq_W, zq_X, zq_Y, zq_Z, zq_0, zq_1, zq_2, zq_3, zq_4, zq_5, ↓zq_6, ↓zq_7, ↓zq_8, ↓zq_9, ↓zq_aa, zq_ab, zq_ac, zq_ad, zq_ae, zq_af, zq_ag, ↓zq_ah, ↓zq_ai, ↓zq_aj, zq_ak, ↓zq_al, ↓zq_am, e_b2, x_o2, r_g0, l, hlt]
  intro m
  induction m with
  | zero => intro c i hm h0 h1; exact hend c i (by omega)
  | succ m ih =>
    intro c i hm h0 h1
    by_cases hlt : i < M 193 1198
    · have w1 : e_w (i + 1) = i + 1 := a_w_id (by omega) (by omega)
      have hk := r_kind (p := i) (M := M) ⟨h0, by omega⟩
      by_cases hc : M 193 (28 * i).toNat = e_w (w - 1)
      · obtain ⟨r, k1⟩ := ih (e_w (c + 1)) (i + 1) (by omega) (by omega) (by omega)
        refine ⟨r, ?_⟩
        rw [E_V_eq]
        show e_tv E_C (E_V 257) e_t257_63 [192, w, c, i] M = _
        unfold e_t257_63
        simp [zq_a, zq_b, zq_c, zq_d, zq_e, zq_f, zq_g, zq_h, zq_i, zq_j, zq_k, zq_l, zq_m, zq_n, zq_o, zq_p, zq_q, zq_r, zq_s, zq_t, zq_u, zq_v, zq_w, zq_x, zq_y, zq_z, zq_A, zq_B, zq_C, zq_D, zq_E, zq_F, zq_G, zq_H, zq_I, zq_J, zq_K, zq_L, ↓zq_M, ↓zq_N, ↓zq_O, ↓zq_P, ↓zq_Q, ↓zq_R, zq_S, zq_T, zq_U, zq_V, zq_W, zq_X, zq_Y, zq_Z, zq_0, zq_1, zq_2, zq_3, zq_4, zq_5, ↓zq_6, ↓zq_7, ↓zq_8, ↓zq_9, ↓zq_aa, zq_ab, zq_ac, zq_ad, zq_ae, zq_af, zq_ag, ↓zq_ah, ↓zq_ai, ↓zq_aj, zq_ak, ↓zq_al, ↓zq_am, e_b2, x_o2, r_g0, l, hlt, hk, hc, w1, k1]
      · obtain ⟨r, k1⟩ := ih (e_w (c + 0)) (i + 1) (by omega) (by omega) (by omega)
        refine ⟨r, ?_⟩
        rw [E_V_eq]
        show e_tv E_C (E_V 257) e_t257_63 [192, w, c, i] M = _
        unfold e_t257_63
        rw [Int.add_zero] at k1
        simp [zq_a, zq_b, zq_c, zq_d, zq_e, zq_f, zq_g, zq_h, zq_i, zq_j, zq_k, zq_l, zq_m, zq_n, zq_o, zq_p, zq_q, zq_r, zq_s, zq_t, zq_u, zq_v, zq_w, zq_x, zq_y, zq_z, zq_A, zq_B, zq_C, zq_D, zq_E, zq_F, zq_G, zq_H, zq_I, zq_J, zq_K, zq_L, ↓zq_M, ↓zq_N, ↓zq_O, ↓zq_P, ↓zq_Q, ↓zq_R, zq_S, zq_T, zq_U, zq_V, zq_W, zq_X, zq_Y, zq_Z, zq_0, zq_1, zq_2, zq_3, zq_4, zq_5, ↓zq_6, ↓zq_7, ↓zq_8, ↓zq_9, ↓zq_aa, zq_ab, zq_ac, zq_ad, zq_ae, zq_af, zq_ag, ↓zq_ah, ↓zq_ai, ↓zq_aj, zq_ak, ↓zq_al, ↓zq_am, e_b2, x_o2, r_g0, l, hlt, hk, hc, w1, k1]
    · exact hend c i hlt
end
section
theorem r_count_b {w : Int} {M : EM} (hN : r_N M) : ∀ (m : Nat) (c i : Int), (M 193 1198 - i).toNat ≤ m → 0 ≤ i → i ≤ M 193 1198 → ∃ r, E_V 257 104 [192, w, c, i] M = some (r, M) := by
  have l : e_op 60 [193, 1198] M = some (M 193 1198) := r_s (by decide) (by decide)
  have hN' := hN
  obtain ⟨n1, n2⟩ := hN'
  have b46 : ∀ a, e_b1 46 a = some (if a = 0 then 1 else 0) := fun _ => rfl
  have hend : ∀ (c i : Int), ¬ (i < M 193 1198) → ∃ r, E_V 257 104 [192, w, c, i] M = some (r, M) := by
    intro c i hlt
    refine ⟨c, ?_⟩
    rw [E_V_eq]
    show e_tv E_C (E_V 257) e_t257_104 [192, w, c, i] M = _
    unfold e_t257_104
    simp [zq_a, zq_b, zq_c, zq_d, zq_e, zq_f, zq_g, zq_h, zq_i, zq_j, zq_k, zq_l, zq_m, zq_n, zq_o, zq_p, zq_q, zq_r, zq_s, zq_t, zq_u, zq_v, zq_w, zq_x, zq_y, zq_z, zq_A, zq_B, zq_C, zq_D, zq_E, zq_F, zq_G, zq_H, zq_I, zq_J, zq_K, zq_L, ↓zq_M, ↓zq_N, ↓zq_O, ↓zq_P, ↓zq_Q, ↓zq_R, zq_S, zq_T, zq_U, zq_V, zq_W, zq_X, zq_Y, zq_Z, zq_0, zq_1, zq_2, zq_3, zq_4, zq_5, ↓zq_6, ↓zq_7, ↓zq_8, ↓zq_9, ↓zq_aa, zq_ab, zq_ac, zq_ad, zq_ae, zq_af, zq_ag, ↓zq_ah, ↓zq_ai, ↓zq_aj, zq_ak, ↓zq_al, ↓zq_am, e_b2, x_o2, r_g0, l, hlt]
  intro m
  induction m with
  | zero => intro c i hm h0 h1; exact hend c i (by omega)
  | succ m ih =>
    intro c i hm h0 h1
    by_cases hlt : i < M 193 1198
    · have w1 : e_w (i + 1) = i + 1 := a_w_id (by omega) (by omega)
      have w2 : e_w (28 * i) = 28 * i := a_w_id (by omega) (by omega)
      have w3 : e_w (28 * i + 19) = 28 * i + 19 := a_w_id (by omega) (by omega)
      have hk := r_kind (p := i) (M := M) ⟨h0, by omega⟩
      have l2 : e_op 60 [193, 28 * i + 19] M = some (M 193 (28 * i + 19).toNat) := r_s (by omega) (by omega)
      obtain ⟨r, k1⟩ := ih (e_w (c + 1)) (i + 1) (by omega) (by omega) (by omega)
      obtain ⟨r', k2⟩ := ih (e_w (c + 0)) (i + 1) (by omega) (by omega) (by omega)
      rw [Int.add_zero] at k2
      by_cases hc : M 193 (28 * i).toNat = 0
      · by_cases hd : M 193 (28 * i + 19).toNat = 1
        · refine ⟨r, ?_⟩
          rw [E_V_eq]
          show e_tv E_C (E_V 257) e_t257_104 [192, w, c, i] M = _
          unfold e_t257_104
          simp [zq_a, zq_b, zq_c, zq_d, zq_e, zq_f, zq_g, zq_h, zq_i, zq_j, zq_k, zq_l, zq_m, zq_n, zq_o, zq_p, zq_q, zq_r, zq_s, zq_t, zq_u, zq_v, zq_w, zq_x, zq_y, zq_z, zq_A, zq_B, zq_C, zq_D, zq_E, zq_F, zq_G, zq_H, zq_I, zq_J, zq_K, zq_L, ↓zq_M, ↓zq_N, ↓zq_O, ↓zq_P, ↓zq_Q, ↓zq_R, zq_S, zq_T, zq_U, zq_V, zq_W, zq_X, zq_Y, zq_Z, zq_0, zq_1, zq_2, zq_3, zq_4, zq_5, ↓zq_6, ↓zq_7, ↓zq_8, ↓zq_9, ↓zq_aa, zq_ab, zq_ac, zq_ad, zq_ae, zq_af, zq_ag, ↓zq_ah, ↓zq_ai, ↓zq_aj, zq_ak, ↓zq_al, ↓zq_am, b46, e_b2, x_o1, x_o2, r_g0, l, l2, hlt, hk, hc, hd, w1, w2, w3, k1]
        · refine ⟨r', ?_⟩
          rw [E_V_eq]
          show e_tv E_C (E_V 257) e_t257_104 [192, w, c, i] M = _
          unfold e_t257_104
          simp [zq_a, zq_b, zq_c, zq_d, zq_e, zq_f, zq_g, zq_h, zq_i, zq_j, zq_k, zq_l, zq_m, zq_n, zq_o, zq_p, zq_q, zq_r, zq_s, zq_t, zq_u, zq_v, zq_w, zq_x, zq_y, zq_z, zq_A, zq_B, zq_C, zq_D, zq_E, zq_F, zq_G, zq_H, zq_I, zq_J, zq_K, zq_L, ↓zq_M, ↓zq_N, ↓zq_O, ↓zq_P, ↓zq_Q, ↓zq_R, zq_S, zq_T, zq_U, zq_V, zq_W, zq_X, zq_Y, zq_Z, zq_0, zq_1, zq_2, zq_3, zq_4, zq_5, ↓zq_6, ↓zq_7, ↓zq_8, ↓zq_9, ↓zq_aa, zq_ab, zq_ac, zq_ad, zq_ae, zq_af, zq_ag, ↓zq_ah, ↓zq_ai, ↓zq_aj, zq_ak, ↓zq_al, ↓zq_am, b46, e_b2, x_o1, x_o2, r_g0, l, l2, hlt, hk, hc, hd, w1, w2, w3, k2]
      · refine ⟨r', ?_⟩
        rw [E_V_eq]
        show e_tv E_C (E_V 257) e_t257_104 [192, w, c, i] M = _
        unfold e_t257_104
        simp [zq_a, zq_b, zq_c, zq_d, zq_e, zq_f, zq_g, zq_h, zq_i, zq_j, zq_k, zq_l, zq_m, zq_n, zq_o, zq_p, zq_q, zq_r, zq_s, zq_t, zq_u, zq_v, zq_w, zq_x, zq_y, zq_z, zq_A, zq_B, zq_C, zq_D, zq_E, zq_F, zq_G, zq_H, zq_I, zq_J, zq_K, zq_L, ↓zq_M, ↓zq_N, ↓zq_O, ↓zq_P, ↓zq_Q, ↓zq_R, zq_S, zq_T, zq_U, zq_V, zq_W, zq_X, zq_Y, zq_Z, zq_0, zq_1, zq_2, zq_3, zq_4, zq_5, ↓zq_6, ↓zq_7, ↓zq_8, ↓zq_9, ↓zq_aa, zq_ab, zq_ac, zq_ad, zq_ae, zq_af, zq_ag, ↓zq_ah, ↓zq_ai, ↓zq_aj, zq_ak, ↓zq_al, ↓zq_am, b46, e_b2, x_o1, x_o2, r_g0, l, l2, hlt, hk, hc, w1, w2, w3, k2]
    · exact hend c i hlt
theorem r_count_c {w : Int} {M : EM} : ∀ (m : Nat) (c i : Int), (10 - i).toNat ≤ m → 0 ≤ i → i ≤ 10 → ∃ r, E_V 257 158 [192, w, c, i] M = some (r, M) := by
  have b50 : ∀ a, e_b1 50 a = some (if 0 < a then 1 else 0) := fun _ => rfl
  have hend : ∀ (c i : Int), ¬ (i < 10) → ∃ r, E_V 257 158 [192, w, c, i] M = some (r, M) := by
    intro c i hlt
    refine ⟨c, ?_⟩
    rw [E_V_eq]
    show e_tv E_C (E_V 257) e_t257_158 [192, w, c, i] M = _
    unfold e_t257_158
    simp [zq_a, zq_b, zq_c, zq_d, zq_e, zq_f, zq_g, zq_h, zq_i, zq_j, zq_k, zq_l, zq_m, zq_n, zq_o, zq_p, zq_q, zq_r, zq_s, zq_t, zq_u, zq_v, zq_w, zq_x, zq_y, zq_z, zq_A, zq_B, zq_C, zq_D, zq_E, zq_F, zq_G, zq_H, zq_I, zq_J, zq_K, zq_L, ↓zq_M, ↓zq_N, ↓zq_O, ↓zq_P, ↓zq_Q, ↓zq_R, zq_S, zq_T, zq_U, zq_V, zq_W, zq_X, zq_Y, zq_Z, zq_0, zq_1, zq_2, zq_3, zq_4, zq_5, ↓zq_6, ↓zq_7, ↓zq_8, ↓zq_9, ↓zq_aa, zq_ab, zq_ac, zq_ad, zq_ae, zq_af, zq_ag, ↓zq_ah, ↓zq_ai, ↓zq_aj, zq_ak, ↓zq_al, ↓zq_am, e_b2, x_o2, hlt]
  intro m
  induction m with
  | zero => intro c i hm h0 h1; exact hend c i (by omega)
  | succ m ih =>
    intro c i hm h0 h1
    by_cases hlt : i < 10
    · have w1 : e_w (i + 1) = i + 1 := a_w_id (by omega) (by omega)
      have w2 : e_w (3 * i) = 3 * i := a_w_id (by omega) (by omega)
      have w3 : e_w (1120 + 3 * i) = 1120 + 3 * i := a_w_id (by omega) (by omega)
      have w4 : e_w (1120 + 3 * i + 2) = 1120 + 3 * i + 2 := a_w_id (by omega) (by omega)
      have l2 : e_op 60 [193, 1120 + 3 * i + 2] M = some (M 193 (1120 + 3 * i + 2).toNat) := r_s (by omega) (by omega)
      obtain ⟨r, k1⟩ := ih (e_w (c + 1)) (i + 1) (by omega) (by omega) (by omega)
      obtain ⟨r', k2⟩ := ih (e_w (c + 0)) (i + 1) (by omega) (by omega) (by omega)
      rw [Int.add_zero] at k2
      generalize M 193 (1120 + 3 * i + 2).toNat = x at l2
      by_cases hc : 0 < x
      · refine ⟨r, ?_⟩
        rw [E_V_eq]
        show e_tv E_C (E_V 257) e_t257_158 [192, w, c, i] M = _
        unfold e_t257_158
        simp [zq_a, zq_b, zq_c, zq_d, zq_e, zq_f, zq_g, zq_h, zq_i, zq_j, zq_k, zq_l, zq_m, zq_n, zq_o, zq_p, zq_q, zq_r, zq_s, zq_t, zq_u, zq_v, zq_w, zq_x, zq_y, zq_z, zq_A, zq_B, zq_C, zq_D, zq_E, zq_F, zq_G, zq_H, zq_I, zq_J, zq_K, zq_L, ↓zq_M, ↓zq_N, ↓zq_O, ↓zq_P, ↓zq_Q, ↓zq_R, zq_S, zq_T, zq_U, zq_V, zq_W, zq_X, zq_Y, zq_Z, zq_0, zq_1, zq_2, zq_3, zq_4, zq_5, ↓zq_6, ↓zq_7, ↓zq_8, ↓zq_9, ↓zq_aa, zq_ab, zq_ac, zq_ad, zq_ae, zq_af, zq_ag, ↓zq_ah, ↓zq_ai, ↓zq_aj, zq_ak, ↓zq_al, ↓zq_am, b50, e_b2, x_o1, x_o2, r_g0, l2, hlt, hc, w1, w2, w3, w4, k1]
      · have hc' : x ≤ 0 := by omega
        refine ⟨r', ?_⟩
        rw [E_V_eq]
        show e_tv E_C (E_V 257) e_t257_158 [192, w, c, i] M = _
        unfold e_t257_158
        simp [zq_a, zq_b, zq_c, zq_d, zq_e, zq_f, zq_g, zq_h, zq_i, zq_j, zq_k, zq_l, zq_m, zq_n, zq_o, zq_p, zq_q, zq_r, zq_s, zq_t, zq_u, zq_v, zq_w, zq_x, zq_y, zq_z, zq_A, zq_B, zq_C, zq_D, zq_E, zq_F, zq_G, zq_H, zq_I, zq_J, zq_K, zq_L, ↓zq_M, ↓zq_N, ↓zq_O, ↓zq_P, ↓zq_Q, ↓zq_R, zq_S, zq_T, zq_U, zq_V, zq_W, zq_X, zq_Y, zq_Z, zq_0, zq_1, zq_2, zq_3, zq_4, zq_5, ↓zq_6, ↓zq_7, ↓zq_8, ↓zq_9, ↓zq_aa, zq_ab, zq_ac, zq_ad, zq_ae, zq_af, zq_ag, ↓zq_ah, ↓zq_ai, ↓zq_aj, zq_ak, ↓zq_al, ↓zq_am, b50, e_b2, x_o1, x_o2, r_g0, l2, hlt, hc, hc', w1, w2, w3, w4, k2]
    · exact hend c i hlt
end
