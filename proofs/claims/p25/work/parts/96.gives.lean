/-! what a PART gives at each PUSH: rows 205 and 206 alone are written -/
def r_wg : AW := [(205, 0, 999), (206, 0, 99)]
def r_ev (M M' : EM) : Prop := a_M M' ∧ a_fr r_wg M M'
theorem r_ev_tr {M M1 M2 : EM} (h1 : r_ev M M1) (h2 : r_ev M1 M2) : r_ev M M2 := ⟨h2.1, a_fr_tr h1.2 h2.2⟩
theorem r_ev_same {M M' : EM} (h : r_ev M M') {id k : Nat} (h5 : id ≠ 205) (h6 : id ≠ 206) : M' id k = M id k := h.2 id k (fun w hw hc => by
  rcases List.mem_cons.mp hw with rfl | hw
  · exact h5 hc.1.symm
  · cases List.mem_singleton.mp hw
    exact h6 hc.1.symm)
theorem r_ev_G {M M' : EM} (h : r_ev M M') : r_G M' = r_G M := by
  funext i
  exact r_ev_same h (by decide) (by decide)
theorem r_ev_E {M M' : EM} (hE : r_E M) (h : r_ev M M') : r_E M' := by
  obtain ⟨e1, e2, e3, e4⟩ := hE
  refine ⟨h.1, by rw [r_ev_G h]; exact e2, ?_, ?_⟩ <;> rw [r_ev_same h (by decide) (by decide)] <;> assumption
theorem r_ev5 {M : EM} {k : Nat} {v : Int} (hM : a_M M) (hk : k < 1000) (hv : -2147483648 ≤ v ∧ v ≤ 2147483647) : r_ev M (e_up M 205 k v) := by
  refine ⟨r_up (by decide) (by decide +kernel) (by decide +kernel) hv hM, fun b j hw => c_up_n (fun hc => hw _ List.mem_cons_self ⟨hc.1.symm, Nat.zero_le _, ?_⟩)⟩
  have := hc.2
  show j ≤ 999
  omega
theorem r_ev6 {M : EM} {k : Nat} {v : Int} (hM : a_M M) (hk : k < 100) (hv : -2147483648 ≤ v ∧ v ≤ 2147483647) : r_ev M (e_up M 206 k v) := by
  refine ⟨r_up (by decide) (by decide +kernel) (by decide +kernel) hv hM, fun b j hw => c_up_n (fun hc => hw _ (List.mem_cons_of_mem _ List.mem_cons_self) ⟨hc.1.symm, Nat.zero_le _, ?_⟩)⟩
  have := hc.2
  show j ≤ 99
  omega
theorem r_rd5 {i : Int} {M : EM} (h0 : 0 ≤ i) (hi : i < 1000) : e_op 60 [205, i] M = some (M 205 i.toNat) := r_ld (n := 1000) (by decide) (by decide +kernel) (by decide +kernel) h0 hi
theorem r_rd6 {i : Int} {M : EM} (h0 : 0 ≤ i) (hi : i < 100) : e_op 60 [206, i] M = some (M 206 i.toNat) := r_ld (n := 100) (by decide) (by decide +kernel) (by decide +kernel) h0 hi
theorem r_st5 {i v : Int} {M : EM} (h0 : 0 ≤ i) (hi : i < 1000) : e_st 100 [205, i, v] M = some (e_up M 205 i.toNat v) := r_st (n := 1000) (by decide) (by decide +kernel) (by decide +kernel) h0 hi
theorem r_st6 {i v : Int} {M : EM} (h0 : 0 ≤ i) (hi : i < 100) : e_st 100 [206, i, v] M = some (e_up M 206 i.toNat v) := r_st (n := 100) (by decide) (by decide +kernel) (by decide +kernel) h0 hi
theorem r_by_in {x2 : Int} (h2 : 0 ≤ x2 ∧ x2 < 1000) (H : ∀ x1 M, a_M M → 0 ≤ x1 → x1 ≤ 99 → ∃ M', E_V 205 5 [192, x1, x2 + 1] M = some (0, M') ∧ r_ev M M') : ∀ (m : Nat) (x1 : Int) (M : EM), a_M M → x1.toNat ≤ m → 0 ≤ x1 → x1 ≤ 99 → ∃ M', E_V 205 12 [192, x1, x2] M = some (0, M') ∧ r_ev M M' := by
  have w2 : e_w (x2 + 1) = x2 + 1 := a_w_id (by omega) (by omega)
  have hend : ∀ x1 M, a_M M → 0 ≤ x1 → x1 ≤ 99 → (∀ v, e_op 60 [206, x1] M = some v → ¬ (0 < x1 ∧ v < x2)) → ∃ M', E_V 205 12 [192, x1, x2] M = some (0, M') ∧ r_ev M M' := by
    intro x1 M hM h0 h1 hq
    have hv := hq _ (r_rd6 h0 (by omega))
    have g1 := r_rd6 (M := M) h0 (by omega)
    have g2 := r_rd5 (M := M) h2.1 h2.2
    have e1 := r_ev5 (M := M) (k := x2.toNat) (v := e_w (M 205 x2.toNat + x1)) hM (by omega) (a_w _)
    obtain ⟨M', k, hM'⟩ := H x1 _ e1.1 h0 h1
    refine ⟨M', ?_, r_ev_tr e1 hM'⟩
    rcases x_lt 0 x1 with ⟨q, q_n⟩ | ⟨q, q_n⟩
    · have q1 : ¬ (M 206 x1.toNat < x2) := fun e => hv ⟨q, e⟩
      rw [E_V_eq]
      show e_tv E_C (E_V 205) e_t205_12 [192, x1, x2] M = _
      unfold e_t205_12
      simp [zq_a, zq_b, zq_c, zq_d, zq_e, zq_f, zq_g, zq_h, zq_i, zq_j, zq_k, zq_l, zq_m, zq_n, zq_o, zq_p, zq_q, zq_r, zq_s, zq_t, zq_u, zq_v, zq_w, zq_x, zq_y, zq_z, zq_A, zq_B, zq_C, zq_D, zq_E, zq_F, zq_G, zq_H, zq_I, zq_J, zq_K, zq_L, ↓zq_M, ↓zq_N, ↓zq_O, ↓zq_P, ↓zq_Q, ↓zq_R, zq_S, zq_T, zq_U, zq_V, zq_W, zq_X, zq_Y, zq_Z, zq_0, zq_1, zq_2, zq_3, zq_4, zq_5, ↓zq_6, ↓zq_7, ↓zq_8, ↓zq_9, ↓zq_aa, zq_ab, zq_ac, zq_ad, zq_ae, zq_af, zq_ag, ↓zq_ah, ↓zq_ai, ↓zq_aj, zq_ak, ↓zq_al, ↓zq_am, e_b1, e_b2, x_o1, x_o2, r_O25, r_O26, q, q_n, q1, g1, g2, r_st5 h2.1 h2.2, w2, k]
    · rw [E_V_eq]
      show e_tv E_C (E_V 205) e_t205_12 [192, x1, x2] M = _
      unfold e_t205_12
      simp [zq_a, zq_b, zq_c, zq_d, zq_e, zq_f, zq_g, zq_h, zq_i, zq_j, zq_k, zq_l, zq_m, zq_n, zq_o, zq_p, zq_q, zq_r, zq_s, zq_t, zq_u, zq_v, zq_w, zq_x, zq_y, zq_z, zq_A, zq_B, zq_C, zq_D, zq_E, zq_F, zq_G, zq_H, zq_I, zq_J, zq_K, zq_L, ↓zq_M, ↓zq_N, ↓zq_O, ↓zq_P, ↓zq_Q, ↓zq_R, zq_S, zq_T, zq_U, zq_V, zq_W, zq_X, zq_Y, zq_Z, zq_0, zq_1, zq_2, zq_3, zq_4, zq_5, ↓zq_6, ↓zq_7, ↓zq_8, ↓zq_9, ↓zq_aa, zq_ab, zq_ac, zq_ad, zq_ae, zq_af, zq_ag, ↓zq_ah, ↓zq_ai, ↓zq_aj, zq_ak, ↓zq_al, ↓zq_am, e_b1, e_b2, x_o1, x_o2, r_O25, r_O26, q, q_n, g1, g2, r_st5 h2.1 h2.2, w2, k]
  intro m
  induction m with
  | zero => intro x1 M hM hm h0 h1; exact hend x1 M hM h0 h1 (fun v _ => by omega)
  | succ m ih =>
    intro x1 M hM hm h0 h1
    have g1 := r_rd6 (M := M) h0 (by omega)
    by_cases q : 0 < x1 ∧ M 206 x1.toNat < x2
    · obtain ⟨q, q1⟩ := q
      have w1 : e_w (x1 + -1) = x1 - 1 := a_w_id (by omega) (by omega)
      obtain ⟨M', k, hM'⟩ := ih (x1 - 1) M hM (by omega) (by omega) (by omega)
      refine ⟨M', ?_, hM'⟩
      rw [E_V_eq]
      show e_tv E_C (E_V 205) e_t205_12 [192, x1, x2] M = _
      unfold e_t205_12
      simp [zq_a, zq_b, zq_c, zq_d, zq_e, zq_f, zq_g, zq_h, zq_i, zq_j, zq_k, zq_l, zq_m, zq_n, zq_o, zq_p, zq_q, zq_r, zq_s, zq_t, zq_u, zq_v, zq_w, zq_x, zq_y, zq_z, zq_A, zq_B, zq_C, zq_D, zq_E, zq_F, zq_G, zq_H, zq_I, zq_J, zq_K, zq_L, ↓zq_M, ↓zq_N, ↓zq_O, ↓zq_P, ↓zq_Q, ↓zq_R, zq_S, zq_T, zq_U, zq_V, zq_W, zq_X, zq_Y, zq_Z, zq_0, zq_1, zq_2, zq_3, zq_4, zq_5, ↓zq_6, ↓zq_7, ↓zq_8, ↓zq_9, ↓zq_aa, zq_ab, zq_ac, zq_ad, zq_ae, zq_af, zq_ag, ↓zq_ah, ↓zq_ai, ↓zq_aj, zq_ak, ↓zq_al, ↓zq_am, e_b1, e_b2, x_o1, x_o2, r_O25, r_O26, q, q1, g1, w1, k]
    · exact hend x1 M hM h0 h1 (fun v hv => by rw [g1] at hv; cases hv; exact q)
theorem r_by_out : ∀ (m : Nat) (x1 x2 : Int) (M : EM), a_M M → (1000 - x2).toNat ≤ m → 0 ≤ x2 → 0 ≤ x1 → x1 ≤ 99 → ∃ M', E_V 205 5 [192, x1, x2] M = some (0, M') ∧ r_ev M M' := by
  have hend : ∀ x1 x2 M, a_M M → ¬ (x2 < 1000) → ∃ M', E_V 205 5 [192, x1, x2] M = some (0, M') ∧ r_ev M M' := by
    intro x1 x2 M hM q
    refine ⟨M, ?_, hM, a_fr_rf⟩
    rw [E_V_eq]
    show e_tv E_C (E_V 205) e_t205_5 [192, x1, x2] M = _
    unfold e_t205_5
    simp [zq_a, zq_b, zq_c, zq_d, zq_e, zq_f, zq_g, zq_h, zq_i, zq_j, zq_k, zq_l, zq_m, zq_n, zq_o, zq_p, zq_q, zq_r, zq_s, zq_t, zq_u, zq_v, zq_w, zq_x, zq_y, zq_z, zq_A, zq_B, zq_C, zq_D, zq_E, zq_F, zq_G, zq_H, zq_I, zq_J, zq_K, zq_L, ↓zq_M, ↓zq_N, ↓zq_O, ↓zq_P, ↓zq_Q, ↓zq_R, zq_S, zq_T, zq_U, zq_V, zq_W, zq_X, zq_Y, zq_Z, zq_0, zq_1, zq_2, zq_3, zq_4, zq_5, ↓zq_6, ↓zq_7, ↓zq_8, ↓zq_9, ↓zq_aa, zq_ab, zq_ac, zq_ad, zq_ae, zq_af, zq_ag, ↓zq_ah, ↓zq_ai, ↓zq_aj, zq_ak, ↓zq_al, ↓zq_am, e_b1, e_b2, x_o1, x_o2, q]
  intro m
  induction m with
  | zero => intro x1 x2 M hM hm h2 h0 h1; exact hend x1 x2 M hM (by omega)
  | succ m ih =>
    intro x1 x2 M hM hm h2 h0 h1
    rcases x_lt x2 1000 with ⟨q, q_n⟩ | ⟨q, q_n⟩
    · obtain ⟨M', k, hM'⟩ := r_by_in ⟨h2, q⟩ (fun y1 M1 hM1 y0 y9 => ih y1 (x2 + 1) M1 hM1 (by omega) (by omega) y0 y9) 99 x1 M hM (by omega) h0 h1
      refine ⟨M', ?_, hM'⟩
      rw [E_V_eq]
      show e_tv E_C (E_V 205) e_t205_5 [192, x1, x2] M = _
      unfold e_t205_5
      simp [zq_a, zq_b, zq_c, zq_d, zq_e, zq_f, zq_g, zq_h, zq_i, zq_j, zq_k, zq_l, zq_m, zq_n, zq_o, zq_p, zq_q, zq_r, zq_s, zq_t, zq_u, zq_v, zq_w, zq_x, zq_y, zq_z, zq_A, zq_B, zq_C, zq_D, zq_E, zq_F, zq_G, zq_H, zq_I, zq_J, zq_K, zq_L, ↓zq_M, ↓zq_N, ↓zq_O, ↓zq_P, ↓zq_Q, ↓zq_R, zq_S, zq_T, zq_U, zq_V, zq_W, zq_X, zq_Y, zq_Z, zq_0, zq_1, zq_2, zq_3, zq_4, zq_5, ↓zq_6, ↓zq_7, ↓zq_8, ↓zq_9, ↓zq_aa, zq_ab, zq_ac, zq_ad, zq_ae, zq_af, zq_ag, ↓zq_ah, ↓zq_ai, ↓zq_aj, zq_ak, ↓zq_al, ↓zq_am, e_b1, e_b2, x_o1, x_o2, q, q_n, k]
    · exact hend x1 x2 M hM q
theorem r_givesBy {M : EM} (hM : a_M M) : ∃ M', E_C 205 [192] M = some (0, M') ∧ r_ev M M' := by
  obtain ⟨M', k, hM'⟩ := r_by_out 1000 99 0 M hM (by decide) (by decide) (by decide) (by decide)
  refine ⟨M', ?_, hM'⟩
  rw [r_ent (show e_rok 205 [192] = true from decide_eq_true r_ref)]
  show e_tv E_C (E_V 205) e_t205_0 [192, 0, 0] M = _
  unfold e_t205_0
  simp [zq_a, zq_b, zq_c, zq_d, zq_e, zq_f, zq_g, zq_h, zq_i, zq_j, zq_k, zq_l, zq_m, zq_n, zq_o, zq_p, zq_q, zq_r, zq_s, zq_t, zq_u, zq_v, zq_w, zq_x, zq_y, zq_z, zq_A, zq_B, zq_C, zq_D, zq_E, zq_F, zq_G, zq_H, zq_I, zq_J, zq_K, zq_L, ↓zq_M, ↓zq_N, ↓zq_O, ↓zq_P, ↓zq_Q, ↓zq_R, zq_S, zq_T, zq_U, zq_V, zq_W, zq_X, zq_Y, zq_Z, zq_0, zq_1, zq_2, zq_3, zq_4, zq_5, ↓zq_6, ↓zq_7, ↓zq_8, ↓zq_9, ↓zq_aa, zq_ab, zq_ac, zq_ad, zq_ae, zq_af, zq_ag, ↓zq_ah, ↓zq_ai, ↓zq_aj, zq_ak, ↓zq_al, ↓zq_am, e_b1, e_b2, x_o1, x_o2, k]
theorem r_gm_fill_204 {b p : Int} (hb : b ≤ 40) : ∀ (m : Nat) (x2 : Int) (M : EM), r_E M → (r_cl (r_G M) b p ∨ r_rw (r_G M) b p) → (100 - x2).toNat ≤ m → 0 ≤ x2 → ∃ M', E_V 204 48 [192, p, x2] M = some (0, M') ∧ r_ev M M' := by
  have hend : ∀ x2 M, r_E M → ¬ (x2 < 100) → ∃ M', E_V 204 48 [192, p, x2] M = some (0, M') ∧ r_ev M M' := by
    intro x2 M hE q
    obtain ⟨M', k, hM'⟩ := r_givesBy hE.1
    refine ⟨M', ?_, hM'⟩
    rw [E_V_eq]
    show e_tv E_C (E_V 204) e_t204_48 [192, p, x2] M = _
    unfold e_t204_48
    simp [zq_a, zq_b, zq_c, zq_d, zq_e, zq_f, zq_g, zq_h, zq_i, zq_j, zq_k, zq_l, zq_m, zq_n, zq_o, zq_p, zq_q, zq_r, zq_s, zq_t, zq_u, zq_v, zq_w, zq_x, zq_y, zq_z, zq_A, zq_B, zq_C, zq_D, zq_E, zq_F, zq_G, zq_H, zq_I, zq_J, zq_K, zq_L, ↓zq_M, ↓zq_N, ↓zq_O, ↓zq_P, ↓zq_Q, ↓zq_R, zq_S, zq_T, zq_U, zq_V, zq_W, zq_X, zq_Y, zq_Z, zq_0, zq_1, zq_2, zq_3, zq_4, zq_5, ↓zq_6, ↓zq_7, ↓zq_8, ↓zq_9, ↓zq_aa, zq_ab, zq_ac, zq_ad, zq_ae, zq_af, zq_ag, ↓zq_ah, ↓zq_ai, ↓zq_aj, zq_ak, ↓zq_al, ↓zq_am, e_b1, e_b2, x_o1, x_o2, q, k]
  intro m
  induction m with
  | zero => intro x2 M hE hp hm h0; exact hend x2 M hE (by omega)
  | succ m ih =>
    intro x2 M hE hp hm h0
    rcases x_lt x2 100 with ⟨q, q_n⟩ | ⟨q, q_n⟩
    · obtain ⟨l, kl, hl⟩ := r_lowPush (c := x2) hE hb hp
      have w4 : e_w (x2 + 1) = x2 + 1 := a_w_id (by omega) (by omega)
      have e1 := r_ev6 (M := M) (k := x2.toNat) (v := l) hE.1 (by omega) hl
      obtain ⟨M', k, hM'⟩ := ih (x2 + 1) _ (r_ev_E hE e1) (by rw [r_ev_G e1]; exact hp) (by omega) (by omega)
      refine ⟨M', ?_, r_ev_tr e1 hM'⟩
      rw [E_V_eq]
      show e_tv E_C (E_V 204) e_t204_48 [192, p, x2] M = _
      unfold e_t204_48
      simp [zq_a, zq_b, zq_c, zq_d, zq_e, zq_f, zq_g, zq_h, zq_i, zq_j, zq_k, zq_l, zq_m, zq_n, zq_o, zq_p, zq_q, zq_r, zq_s, zq_t, zq_u, zq_v, zq_w, zq_x, zq_y, zq_z, zq_A, zq_B, zq_C, zq_D, zq_E, zq_F, zq_G, zq_H, zq_I, zq_J, zq_K, zq_L, ↓zq_M, ↓zq_N, ↓zq_O, ↓zq_P, ↓zq_Q, ↓zq_R, zq_S, zq_T, zq_U, zq_V, zq_W, zq_X, zq_Y, zq_Z, zq_0, zq_1, zq_2, zq_3, zq_4, zq_5, ↓zq_6, ↓zq_7, ↓zq_8, ↓zq_9, ↓zq_aa, zq_ab, zq_ac, zq_ad, zq_ae, zq_af, zq_ag, ↓zq_ah, ↓zq_ai, ↓zq_aj, zq_ak, ↓zq_al, ↓zq_am, e_b1, e_b2, x_o1, x_o2, r_O26, q, q_n, kl, r_st6 h0 q, q_n, w4, k]
    · exact hend x2 M hE q
theorem r_gm_lo_204 {b p : Int} {M : EM} (hE : r_E M) (hb : b ≤ 40) (hp : r_cl (r_G M) b p ∨ r_rw (r_G M) b p) : ∃ M', E_C 204 [192, p] M = some (0, M') ∧ r_ev M M' := by
  have h40 := r_lo_p hb hp
  have kk : E_C 170 [192, p] M = some (r_G M (28 * p), M) := r_kind h40
  obtain ⟨M', k, hM'⟩ := r_gm_fill_204 hb 100 0 M hE hp (by decide) (by decide)
  refine ⟨M', ?_, hM'⟩
  rcases hp with hp | hp
  · have a3 := hp.2.2.1
    rw [r_ent (show e_rok 204 [192, p] = true from decide_eq_true r_ref)]
    show e_tv E_C (E_V 204) e_t204_0 [192, p, 0] M = _
    unfold e_t204_0
    simp [zq_a, zq_b, zq_c, zq_d, zq_e, zq_f, zq_g, zq_h, zq_i, zq_j, zq_k, zq_l, zq_m, zq_n, zq_o, zq_p, zq_q, zq_r, zq_s, zq_t, zq_u, zq_v, zq_w, zq_x, zq_y, zq_z, zq_A, zq_B, zq_C, zq_D, zq_E, zq_F, zq_G, zq_H, zq_I, zq_J, zq_K, zq_L, ↓zq_M, ↓zq_N, ↓zq_O, ↓zq_P, ↓zq_Q, ↓zq_R, zq_S, zq_T, zq_U, zq_V, zq_W, zq_X, zq_Y, zq_Z, zq_0, zq_1, zq_2, zq_3, zq_4, zq_5, ↓zq_6, ↓zq_7, ↓zq_8, ↓zq_9, ↓zq_aa, zq_ab, zq_ac, zq_ad, zq_ae, zq_af, zq_ag, ↓zq_ah, ↓zq_ai, ↓zq_aj, zq_ak, ↓zq_al, ↓zq_am, e_b1, e_b2, x_o1, x_o2, kk, a3, k]
  · have a3 := hp.2.2.1
    rw [r_ent (show e_rok 204 [192, p] = true from decide_eq_true r_ref)]
    show e_tv E_C (E_V 204) e_t204_0 [192, p, 0] M = _
    unfold e_t204_0
    simp [zq_a, zq_b, zq_c, zq_d, zq_e, zq_f, zq_g, zq_h, zq_i, zq_j, zq_k, zq_l, zq_m, zq_n, zq_o, zq_p, zq_q, zq_r, zq_s, zq_t, zq_u, zq_v, zq_w, zq_x, zq_y, zq_z, zq_A, zq_B, zq_C, zq_D, zq_E, zq_F, zq_G, zq_H, zq_I, zq_J, zq_K, zq_L, ↓zq_M, ↓zq_N, ↓zq_O, ↓zq_P, ↓zq_Q, ↓zq_R, zq_S, zq_T, zq_U, zq_V, zq_W, zq_X, zq_Y, zq_Z, zq_0, zq_1, zq_2, zq_3, zq_4, zq_5, ↓zq_6, ↓zq_7, ↓zq_8, ↓zq_9, ↓zq_aa, zq_ab, zq_ac, zq_ad, zq_ae, zq_af, zq_ag, ↓zq_ah, ↓zq_ai, ↓zq_aj, zq_ak, ↓zq_al, ↓zq_am, e_b1, e_b2, x_o1, x_o2, kk, a3, k]
theorem r_gm_fill_308 {b p : Int} (hb : b ≤ 40) : ∀ (m : Nat) (x2 : Int) (M : EM), r_E M → (r_cl (r_G M) b p ∨ r_rw (r_G M) b p) → (100 - x2).toNat ≤ m → 0 ≤ x2 → ∃ M', E_V 308 48 [192, p, x2] M = some (0, M') ∧ r_ev M M' := by
  have hend : ∀ x2 M, r_E M → ¬ (x2 < 100) → ∃ M', E_V 308 48 [192, p, x2] M = some (0, M') ∧ r_ev M M' := by
    intro x2 M hE q
    obtain ⟨M', k, hM'⟩ := r_givesBy hE.1
    refine ⟨M', ?_, hM'⟩
    rw [E_V_eq]
    show e_tv E_C (E_V 308) e_t308_48 [192, p, x2] M = _
    unfold e_t308_48
    simp [zq_a, zq_b, zq_c, zq_d, zq_e, zq_f, zq_g, zq_h, zq_i, zq_j, zq_k, zq_l, zq_m, zq_n, zq_o, zq_p, zq_q, zq_r, zq_s, zq_t, zq_u, zq_v, zq_w, zq_x, zq_y, zq_z, zq_A, zq_B, zq_C, zq_D, zq_E, zq_F, zq_G, zq_H, zq_I, zq_J, zq_K, zq_L, ↓zq_M, ↓zq_N, ↓zq_O, ↓zq_P, ↓zq_Q, ↓zq_R, zq_S, zq_T, zq_U, zq_V, zq_W, zq_X, zq_Y, zq_Z, zq_0, zq_1, zq_2, zq_3, zq_4, zq_5, ↓zq_6, ↓zq_7, ↓zq_8, ↓zq_9, ↓zq_aa, zq_ab, zq_ac, zq_ad, zq_ae, zq_af, zq_ag, ↓zq_ah, ↓zq_ai, ↓zq_aj, zq_ak, ↓zq_al, ↓zq_am, e_b1, e_b2, x_o1, x_o2, q, k]
  intro m
  induction m with
  | zero => intro x2 M hE hp hm h0; exact hend x2 M hE (by omega)
  | succ m ih =>
    intro x2 M hE hp hm h0
    rcases x_lt x2 100 with ⟨q, q_n⟩ | ⟨q, q_n⟩
    · obtain ⟨l, kl, hl⟩ := r_lowPush (c := x2) hE hb hp
      have w4 : e_w (x2 + 1) = x2 + 1 := a_w_id (by omega) (by omega)
      have e1 := r_ev6 (M := M) (k := x2.toNat) (v := l) hE.1 (by omega) hl
      obtain ⟨M', k, hM'⟩ := ih (x2 + 1) _ (r_ev_E hE e1) (by rw [r_ev_G e1]; exact hp) (by omega) (by omega)
      refine ⟨M', ?_, r_ev_tr e1 hM'⟩
      rw [E_V_eq]
      show e_tv E_C (E_V 308) e_t308_48 [192, p, x2] M = _
      unfold e_t308_48
      simp [zq_a, zq_b, zq_c, zq_d, zq_e, zq_f, zq_g, zq_h, zq_i, zq_j, zq_k, zq_l, zq_m, zq_n, zq_o, zq_p, zq_q, zq_r, zq_s, zq_t, zq_u, zq_v, zq_w, zq_x, zq_y, zq_z, zq_A, zq_B, zq_C, zq_D, zq_E, zq_F, zq_G, zq_H, zq_I, zq_J, zq_K, zq_L, ↓zq_M, ↓zq_N, ↓zq_O, ↓zq_P, ↓zq_Q, ↓zq_R, zq_S, zq_T, zq_U, zq_V, zq_W, zq_X, zq_Y, zq_Z, zq_0, zq_1, zq_2, zq_3, zq_4, zq_5, ↓zq_6, ↓zq_7, ↓zq_8, ↓zq_9, ↓zq_aa, zq_ab, zq_ac, zq_ad, zq_ae, zq_af, zq_ag, ↓zq_ah, ↓zq_ai, ↓zq_aj, zq_ak, ↓zq_al, ↓zq_am, e_b1, e_b2, x_o1, x_o2, r_O26, q, q_n, kl, r_st6 h0 q, q_n, w4, k]
    · exact hend x2 M hE q
theorem r_gm_lo_308 {b p : Int} {M : EM} (hE : r_E M) (hb : b ≤ 40) (hp : r_cl (r_G M) b p ∨ r_rw (r_G M) b p) : ∃ M', E_C 308 [192, p] M = some (0, M') ∧ r_ev M M' := by
  have h40 := r_lo_p hb hp
  have kk : E_C 170 [192, p] M = some (r_G M (28 * p), M) := r_kind h40
  obtain ⟨M', k, hM'⟩ := r_gm_fill_308 hb 100 0 M hE hp (by decide) (by decide)
  refine ⟨M', ?_, hM'⟩
  rcases hp with hp | hp
  · have a3 := hp.2.2.1
    rw [r_ent (show e_rok 308 [192, p] = true from decide_eq_true r_ref)]
    show e_tv E_C (E_V 308) e_t308_0 [192, p, 0] M = _
    unfold e_t308_0
    simp [zq_a, zq_b, zq_c, zq_d, zq_e, zq_f, zq_g, zq_h, zq_i, zq_j, zq_k, zq_l, zq_m, zq_n, zq_o, zq_p, zq_q, zq_r, zq_s, zq_t, zq_u, zq_v, zq_w, zq_x, zq_y, zq_z, zq_A, zq_B, zq_C, zq_D, zq_E, zq_F, zq_G, zq_H, zq_I, zq_J, zq_K, zq_L, ↓zq_M, ↓zq_N, ↓zq_O, ↓zq_P, ↓zq_Q, ↓zq_R, zq_S, zq_T, zq_U, zq_V, zq_W, zq_X, zq_Y, zq_Z, zq_0, zq_1, zq_2, zq_3, zq_4, zq_5, ↓zq_6, ↓zq_7, ↓zq_8, ↓zq_9, ↓zq_aa, zq_ab, zq_ac, zq_ad, zq_ae, zq_af, zq_ag, ↓zq_ah, ↓zq_ai, ↓zq_aj, zq_ak, ↓zq_al, ↓zq_am, e_b1, e_b2, x_o1, x_o2, kk, a3, k]
  · have a3 := hp.2.2.1
    rw [r_ent (show e_rok 308 [192, p] = true from decide_eq_true r_ref)]
    show e_tv E_C (E_V 308) e_t308_0 [192, p, 0] M = _
    unfold e_t308_0
    simp [zq_a, zq_b, zq_c, zq_d, zq_e, zq_f, zq_g, zq_h, zq_i, zq_j, zq_k, zq_l, zq_m, zq_n, zq_o, zq_p, zq_q, zq_r, zq_s, zq_t, zq_u, zq_v, zq_w, zq_x, zq_y, zq_z, zq_A, zq_B, zq_C, zq_D, zq_E, zq_F, zq_G, zq_H, zq_I, zq_J, zq_K, zq_L, ↓zq_M, ↓zq_N, ↓zq_O, ↓zq_P, ↓zq_Q, ↓zq_R, zq_S, zq_T, zq_U, zq_V, zq_W, zq_X, zq_Y, zq_Z, zq_0, zq_1, zq_2, zq_3, zq_4, zq_5, ↓zq_6, ↓zq_7, ↓zq_8, ↓zq_9, ↓zq_aa, zq_ab, zq_ac, zq_ad, zq_ae, zq_af, zq_ag, ↓zq_ah, ↓zq_ai, ↓zq_aj, zq_ak, ↓zq_al, ↓zq_am, e_b1, e_b2, x_o1, x_o2, kk, a3, k]
theorem r_gm_fill_309 {b p : Int} (hb : b ≤ 40) : ∀ (m : Nat) (x2 : Int) (M : EM), r_E M → (r_cl (r_G M) b p ∨ r_rw (r_G M) b p) → (100 - x2).toNat ≤ m → 0 ≤ x2 → ∃ M', E_V 309 48 [192, p, x2] M = some (0, M') ∧ r_ev M M' := by
  have hend : ∀ x2 M, r_E M → ¬ (x2 < 100) → ∃ M', E_V 309 48 [192, p, x2] M = some (0, M') ∧ r_ev M M' := by
    intro x2 M hE q
    obtain ⟨M', k, hM'⟩ := r_givesBy hE.1
    refine ⟨M', ?_, hM'⟩
    rw [E_V_eq]
    show e_tv E_C (E_V 309) e_t309_48 [192, p, x2] M = _
    unfold e_t309_48
    simp [zq_a, zq_b, zq_c, zq_d, zq_e, zq_f, zq_g, zq_h, zq_i, zq_j, zq_k, zq_l, zq_m, zq_n, zq_o, zq_p, zq_q, zq_r, zq_s, zq_t, zq_u, zq_v, zq_w, zq_x, zq_y, zq_z, zq_A, zq_B, zq_C, zq_D, zq_E, zq_F, zq_G, zq_H, zq_I, zq_J, zq_K, zq_L, ↓zq_M, ↓zq_N, ↓zq_O, ↓zq_P, ↓zq_Q, ↓zq_R, zq_S, zq_T, zq_U, zq_V, zq_W, zq_X, zq_Y, zq_Z, zq_0, zq_1, zq_2, zq_3, zq_4, zq_5, ↓zq_6, ↓zq_7, ↓zq_8, ↓zq_9, ↓zq_aa, zq_ab, zq_ac, zq_ad, zq_ae, zq_af, zq_ag, ↓zq_ah, ↓zq_ai, ↓zq_aj, zq_ak, ↓zq_al, ↓zq_am, e_b1, e_b2, x_o1, x_o2, q, k]
  intro m
  induction m with
  | zero => intro x2 M hE hp hm h0; exact hend x2 M hE (by omega)
  | succ m ih =>
    intro x2 M hE hp hm h0
    rcases x_lt x2 100 with ⟨q, q_n⟩ | ⟨q, q_n⟩
    · obtain ⟨l, kl, hl⟩ := r_lowPush (c := x2) hE hb hp
      have w4 : e_w (x2 + 1) = x2 + 1 := a_w_id (by omega) (by omega)
      have e1 := r_ev6 (M := M) (k := x2.toNat) (v := l) hE.1 (by omega) hl
      obtain ⟨M', k, hM'⟩ := ih (x2 + 1) _ (r_ev_E hE e1) (by rw [r_ev_G e1]; exact hp) (by omega) (by omega)
      refine ⟨M', ?_, r_ev_tr e1 hM'⟩
      rw [E_V_eq]
      show e_tv E_C (E_V 309) e_t309_48 [192, p, x2] M = _
      unfold e_t309_48
      simp [zq_a, zq_b, zq_c, zq_d, zq_e, zq_f, zq_g, zq_h, zq_i, zq_j, zq_k, zq_l, zq_m, zq_n, zq_o, zq_p, zq_q, zq_r, zq_s, zq_t, zq_u, zq_v, zq_w, zq_x, zq_y, zq_z, zq_A, zq_B, zq_C, zq_D, zq_E, zq_F, zq_G, zq_H, zq_I, zq_J, zq_K, zq_L, ↓zq_M, ↓zq_N, ↓zq_O, ↓zq_P, ↓zq_Q, ↓zq_R, zq_S, zq_T, zq_U, zq_V, zq_W, zq_X, zq_Y, zq_Z, zq_0, zq_1, zq_2, zq_3, zq_4, zq_5, ↓zq_6, ↓zq_7, ↓zq_8, ↓zq_9, ↓zq_aa, zq_ab, zq_ac, zq_ad, zq_ae, zq_af, zq_ag, ↓zq_ah, ↓zq_ai, ↓zq_aj, zq_ak, ↓zq_al, ↓zq_am, e_b1, e_b2, x_o1, x_o2, r_O26, q, q_n, kl, r_st6 h0 q, q_n, w4, k]
    · exact hend x2 M hE q
theorem r_gm_lo_309 {b p : Int} {M : EM} (hE : r_E M) (hb : b ≤ 40) (hp : r_cl (r_G M) b p ∨ r_rw (r_G M) b p) : ∃ M', E_C 309 [192, p] M = some (0, M') ∧ r_ev M M' := by
  have h40 := r_lo_p hb hp
  have kk : E_C 170 [192, p] M = some (r_G M (28 * p), M) := r_kind h40
  obtain ⟨M', k, hM'⟩ := r_gm_fill_309 hb 100 0 M hE hp (by decide) (by decide)
  refine ⟨M', ?_, hM'⟩
  rcases hp with hp | hp
  · have a3 := hp.2.2.1
    rw [r_ent (show e_rok 309 [192, p] = true from decide_eq_true r_ref)]
    show e_tv E_C (E_V 309) e_t309_0 [192, p, 0] M = _
    unfold e_t309_0
    simp [zq_a, zq_b, zq_c, zq_d, zq_e, zq_f, zq_g, zq_h, zq_i, zq_j, zq_k, zq_l, zq_m, zq_n, zq_o, zq_p, zq_q, zq_r, zq_s, zq_t, zq_u, zq_v, zq_w, zq_x, zq_y, zq_z, zq_A, zq_B, zq_C, zq_D, zq_E, zq_F, zq_G, zq_H, zq_I, zq_J, zq_K, zq_L, ↓zq_M, ↓zq_N, ↓zq_O, ↓zq_P, ↓zq_Q, ↓zq_R, zq_S, zq_T, zq_U, zq_V, zq_W, zq_X, zq_Y, zq_Z, zq_0, zq_1, zq_2, zq_3, zq_4, zq_5, ↓zq_6, ↓zq_7, ↓zq_8, ↓zq_9, ↓zq_aa, zq_ab, zq_ac, zq_ad, zq_ae, zq_af, zq_ag, ↓zq_ah, ↓zq_ai, ↓zq_aj, zq_ak, ↓zq_al, ↓zq_am, e_b1, e_b2, x_o1, x_o2, kk, a3, k]
  · have a3 := hp.2.2.1
    rw [r_ent (show e_rok 309 [192, p] = true from decide_eq_true r_ref)]
    show e_tv E_C (E_V 309) e_t309_0 [192, p, 0] M = _
    unfold e_t309_0
    simp [zq_a, zq_b, zq_c, zq_d, zq_e, zq_f, zq_g, zq_h, zq_i, zq_j, zq_k, zq_l, zq_m, zq_n, zq_o, zq_p, zq_q, zq_r, zq_s, zq_t, zq_u, zq_v, zq_w, zq_x, zq_y, zq_z, zq_A, zq_B, zq_C, zq_D, zq_E, zq_F, zq_G, zq_H, zq_I, zq_J, zq_K, zq_L, ↓zq_M, ↓zq_N, ↓zq_O, ↓zq_P, ↓zq_Q, ↓zq_R, zq_S, zq_T, zq_U, zq_V, zq_W, zq_X, zq_Y, zq_Z, zq_0, zq_1, zq_2, zq_3, zq_4, zq_5, ↓zq_6, ↓zq_7, ↓zq_8, ↓zq_9, ↓zq_aa, zq_ab, zq_ac, zq_ad, zq_ae, zq_af, zq_ag, ↓zq_ah, ↓zq_ai, ↓zq_aj, zq_ak, ↓zq_al, ↓zq_am, e_b1, e_b2, x_o1, x_o2, kk, a3, k]
theorem r_gm_all_308 {p : Int} (hp : 0 ≤ p ∧ p < 40) : ∀ (m : Nat) (x2 : Int) (M : EM), r_E M → r_G M (28 * p + 2) ≤ 6 → (∀ k, 0 ≤ k → k < r_G M (28 * p + 2) → r_cl (r_G M) p (r_G M (28 * p + 3 + k)) ∨ r_rw (r_G M) p (r_G M (28 * p + 3 + k))) → (6 - x2).toNat ≤ m → 0 ≤ x2 → ∃ M', E_V 308 20 [192, p, x2] M = some (0, M') ∧ r_ev M M' := by
  have hend : ∀ x2 M, r_E M → ¬ (x2 < r_G M (28 * p + 2)) → ∃ M', E_V 308 20 [192, p, x2] M = some (0, M') ∧ r_ev M M' := by
    intro x2 M hE q
    have km : E_C 171 [192, p] M = some (r_G M (28 * p + 2), M) := r_many hp
    refine ⟨M, ?_, hE.1, a_fr_rf⟩
    rw [E_V_eq]
    show e_tv E_C (E_V 308) e_t308_20 [192, p, x2] M = _
    unfold e_t308_20
    simp [zq_a, zq_b, zq_c, zq_d, zq_e, zq_f, zq_g, zq_h, zq_i, zq_j, zq_k, zq_l, zq_m, zq_n, zq_o, zq_p, zq_q, zq_r, zq_s, zq_t, zq_u, zq_v, zq_w, zq_x, zq_y, zq_z, zq_A, zq_B, zq_C, zq_D, zq_E, zq_F, zq_G, zq_H, zq_I, zq_J, zq_K, zq_L, ↓zq_M, ↓zq_N, ↓zq_O, ↓zq_P, ↓zq_Q, ↓zq_R, zq_S, zq_T, zq_U, zq_V, zq_W, zq_X, zq_Y, zq_Z, zq_0, zq_1, zq_2, zq_3, zq_4, zq_5, ↓zq_6, ↓zq_7, ↓zq_8, ↓zq_9, ↓zq_aa, zq_ab, zq_ac, zq_ad, zq_ae, zq_af, zq_ag, ↓zq_ah, ↓zq_ai, ↓zq_aj, zq_ak, ↓zq_al, ↓zq_am, e_b1, e_b2, x_o1, x_o2, q, km]
  intro m
  induction m with
  | zero => intro x2 M hE hn hm h5 h0; exact hend x2 M hE (by omega)
  | succ m ih =>
    intro x2 M hE hn hm h5 h0
    rcases x_lt x2 (r_G M (28 * p + 2)) with ⟨q, q_n⟩ | ⟨q, q_n⟩
    · have km : E_C 171 [192, p] M = some (r_G M (28 * p + 2), M) := r_many hp
      have w4 : e_w (x2 + 1) = x2 + 1 := a_w_id (by omega) (by omega)
      have ko : E_C 172 [192, p, x2] M = some (r_G M (28 * p + 3 + x2), M) := r_of hp ⟨h0, by omega⟩
      obtain ⟨M1, k1, e1⟩ := r_gm_lo_309 hE (by omega) (hm x2 h0 q)
      have eG := r_ev_G e1
      obtain ⟨M', k, hM'⟩ := ih (x2 + 1) M1 (r_ev_E hE e1) (by rw [eG]; exact hn) (by rw [eG]; exact hm) (by omega) (by omega)
      refine ⟨M', ?_, r_ev_tr e1 hM'⟩
      rw [E_V_eq]
      show e_tv E_C (E_V 308) e_t308_20 [192, p, x2] M = _
      unfold e_t308_20
      simp [zq_a, zq_b, zq_c, zq_d, zq_e, zq_f, zq_g, zq_h, zq_i, zq_j, zq_k, zq_l, zq_m, zq_n, zq_o, zq_p, zq_q, zq_r, zq_s, zq_t, zq_u, zq_v, zq_w, zq_x, zq_y, zq_z, zq_A, zq_B, zq_C, zq_D, zq_E, zq_F, zq_G, zq_H, zq_I, zq_J, zq_K, zq_L, ↓zq_M, ↓zq_N, ↓zq_O, ↓zq_P, ↓zq_Q, ↓zq_R, zq_S, zq_T, zq_U, zq_V, zq_W, zq_X, zq_Y, zq_Z, zq_0, zq_1, zq_2, zq_3, zq_4, zq_5, ↓zq_6, ↓zq_7, ↓zq_8, ↓zq_9, ↓zq_aa, zq_ab, zq_ac, zq_ad, zq_ae, zq_af, zq_ag, ↓zq_ah, ↓zq_ai, ↓zq_aj, zq_ak, ↓zq_al, ↓zq_am, e_b1, e_b2, x_o1, x_o2, q, q_n, km, ko, k1, w4, k]
    · exact hend x2 M hE q
theorem r_gm_fd_308 {b p : Int} {M : EM} (hE : r_E M) (hb : b ≤ 40) (hp : r_fd (r_G M) b p) : ∃ M', E_C 308 [192, p] M = some (0, M') ∧ r_ev M M' := by
  obtain ⟨a1, a2, a3, a4, a5, a6⟩ := hp
  have kk : E_C 170 [192, p] M = some (r_G M (28 * p), M) := r_kind ⟨a1, by omega⟩
  obtain ⟨M', k, hM'⟩ := r_gm_all_308 ⟨a1, by omega⟩ 6 0 M hE a5 a6 (by decide) (by decide)
  refine ⟨M', ?_, hM'⟩
  rw [r_ent (show e_rok 308 [192, p] = true from decide_eq_true r_ref)]
  show e_tv E_C (E_V 308) e_t308_0 [192, p, 0] M = _
  unfold e_t308_0
  simp [zq_a, zq_b, zq_c, zq_d, zq_e, zq_f, zq_g, zq_h, zq_i, zq_j, zq_k, zq_l, zq_m, zq_n, zq_o, zq_p, zq_q, zq_r, zq_s, zq_t, zq_u, zq_v, zq_w, zq_x, zq_y, zq_z, zq_A, zq_B, zq_C, zq_D, zq_E, zq_F, zq_G, zq_H, zq_I, zq_J, zq_K, zq_L, ↓zq_M, ↓zq_N, ↓zq_O, ↓zq_P, ↓zq_Q, ↓zq_R, zq_S, zq_T, zq_U, zq_V, zq_W, zq_X, zq_Y, zq_Z, zq_0, zq_1, zq_2, zq_3, zq_4, zq_5, ↓zq_6, ↓zq_7, ↓zq_8, ↓zq_9, ↓zq_aa, zq_ab, zq_ac, zq_ad, zq_ae, zq_af, zq_ag, ↓zq_ah, ↓zq_ai, ↓zq_aj, zq_ak, ↓zq_al, ↓zq_am, e_b1, e_b2, x_o1, x_o2, kk, a3, k]
theorem r_gm_all_204 {p : Int} (hp : 0 ≤ p ∧ p < 40) : ∀ (m : Nat) (x2 : Int) (M : EM), r_E M → r_G M (28 * p + 2) ≤ 6 → (∀ k, 0 ≤ k → k < r_G M (28 * p + 2) → r_cl (r_G M) p (r_G M (28 * p + 3 + k)) ∨ r_rw (r_G M) p (r_G M (28 * p + 3 + k))) → (6 - x2).toNat ≤ m → 0 ≤ x2 → ∃ M', E_V 204 20 [192, p, x2] M = some (0, M') ∧ r_ev M M' := by
  have hend : ∀ x2 M, r_E M → ¬ (x2 < r_G M (28 * p + 2)) → ∃ M', E_V 204 20 [192, p, x2] M = some (0, M') ∧ r_ev M M' := by
    intro x2 M hE q
    have km : E_C 171 [192, p] M = some (r_G M (28 * p + 2), M) := r_many hp
    refine ⟨M, ?_, hE.1, a_fr_rf⟩
    rw [E_V_eq]
    show e_tv E_C (E_V 204) e_t204_20 [192, p, x2] M = _
    unfold e_t204_20
    simp [zq_a, zq_b, zq_c, zq_d, zq_e, zq_f, zq_g, zq_h, zq_i, zq_j, zq_k, zq_l, zq_m, zq_n, zq_o, zq_p, zq_q, zq_r, zq_s, zq_t, zq_u, zq_v, zq_w, zq_x, zq_y, zq_z, zq_A, zq_B, zq_C, zq_D, zq_E, zq_F, zq_G, zq_H, zq_I, zq_J, zq_K, zq_L, ↓zq_M, ↓zq_N, ↓zq_O, ↓zq_P, ↓zq_Q, ↓zq_R, zq_S, zq_T, zq_U, zq_V, zq_W, zq_X, zq_Y, zq_Z, zq_0, zq_1, zq_2, zq_3, zq_4, zq_5, ↓zq_6, ↓zq_7, ↓zq_8, ↓zq_9, ↓zq_aa, zq_ab, zq_ac, zq_ad, zq_ae, zq_af, zq_ag, ↓zq_ah, ↓zq_ai, ↓zq_aj, zq_ak, ↓zq_al, ↓zq_am, e_b1, e_b2, x_o1, x_o2, q, km]
  intro m
  induction m with
  | zero => intro x2 M hE hn hm h5 h0; exact hend x2 M hE (by omega)
  | succ m ih =>
    intro x2 M hE hn hm h5 h0
    rcases x_lt x2 (r_G M (28 * p + 2)) with ⟨q, q_n⟩ | ⟨q, q_n⟩
    · have km : E_C 171 [192, p] M = some (r_G M (28 * p + 2), M) := r_many hp
      have w4 : e_w (x2 + 1) = x2 + 1 := a_w_id (by omega) (by omega)
      have ko : E_C 172 [192, p, x2] M = some (r_G M (28 * p + 3 + x2), M) := r_of hp ⟨h0, by omega⟩
      obtain ⟨M1, k1, e1⟩ := r_gm_lo_308 hE (by omega) (hm x2 h0 q)
      have eG := r_ev_G e1
      obtain ⟨M', k, hM'⟩ := ih (x2 + 1) M1 (r_ev_E hE e1) (by rw [eG]; exact hn) (by rw [eG]; exact hm) (by omega) (by omega)
      refine ⟨M', ?_, r_ev_tr e1 hM'⟩
      rw [E_V_eq]
      show e_tv E_C (E_V 204) e_t204_20 [192, p, x2] M = _
      unfold e_t204_20
      simp [zq_a, zq_b, zq_c, zq_d, zq_e, zq_f, zq_g, zq_h, zq_i, zq_j, zq_k, zq_l, zq_m, zq_n, zq_o, zq_p, zq_q, zq_r, zq_s, zq_t, zq_u, zq_v, zq_w, zq_x, zq_y, zq_z, zq_A, zq_B, zq_C, zq_D, zq_E, zq_F, zq_G, zq_H, zq_I, zq_J, zq_K, zq_L, ↓zq_M, ↓zq_N, ↓zq_O, ↓zq_P, ↓zq_Q, ↓zq_R, zq_S, zq_T, zq_U, zq_V, zq_W, zq_X, zq_Y, zq_Z, zq_0, zq_1, zq_2, zq_3, zq_4, zq_5, ↓zq_6, ↓zq_7, ↓zq_8, ↓zq_9, ↓zq_aa, zq_ab, zq_ac, zq_ad, zq_ae, zq_af, zq_ag, ↓zq_ah, ↓zq_ai, ↓zq_aj, zq_ak, ↓zq_al, ↓zq_am, e_b1, e_b2, x_o1, x_o2, q, q_n, km, ko, k1, w4, k]
    · exact hend x2 M hE q
theorem r_gm_fd_204 {b p : Int} {M : EM} (hE : r_E M) (hb : b ≤ 40) (hp : r_fd (r_G M) b p) : ∃ M', E_C 204 [192, p] M = some (0, M') ∧ r_ev M M' := by
  obtain ⟨a1, a2, a3, a4, a5, a6⟩ := hp
  have kk : E_C 170 [192, p] M = some (r_G M (28 * p), M) := r_kind ⟨a1, by omega⟩
  obtain ⟨M', k, hM'⟩ := r_gm_all_204 ⟨a1, by omega⟩ 6 0 M hE a5 a6 (by decide) (by decide)
  refine ⟨M', ?_, hM'⟩
  rw [r_ent (show e_rok 204 [192, p] = true from decide_eq_true r_ref)]
  show e_tv E_C (E_V 204) e_t204_0 [192, p, 0] M = _
  unfold e_t204_0
  simp [zq_a, zq_b, zq_c, zq_d, zq_e, zq_f, zq_g, zq_h, zq_i, zq_j, zq_k, zq_l, zq_m, zq_n, zq_o, zq_p, zq_q, zq_r, zq_s, zq_t, zq_u, zq_v, zq_w, zq_x, zq_y, zq_z, zq_A, zq_B, zq_C, zq_D, zq_E, zq_F, zq_G, zq_H, zq_I, zq_J, zq_K, zq_L, ↓zq_M, ↓zq_N, ↓zq_O, ↓zq_P, ↓zq_Q, ↓zq_R, zq_S, zq_T, zq_U, zq_V, zq_W, zq_X, zq_Y, zq_Z, zq_0, zq_1, zq_2, zq_3, zq_4, zq_5, ↓zq_6, ↓zq_7, ↓zq_8, ↓zq_9, ↓zq_aa, zq_ab, zq_ac, zq_ad, zq_ae, zq_af, zq_ag, ↓zq_ah, ↓zq_ai, ↓zq_aj, zq_ak, ↓zq_al, ↓zq_am, e_b1, e_b2, x_o1, x_o2, kk, a3, k]
theorem r_givesMore {b p : Int} {M : EM} (hE : r_E M) (hb : b ≤ 40) (hp : r_pt (r_G M) b p) : ∃ M', E_C 204 [192, p] M = some (0, M') ∧ r_ev M M' := by
  rcases hp with hp | hp | hp | hp
  · exact r_gm_lo_204 hE hb (Or.inl hp)
  · exact r_gm_lo_204 hE hb (Or.inr hp)
  · exact r_gm_fd_204 hE hb hp
  · obtain ⟨a1, a2, a3, a4, a5⟩ := hp
    have kk : E_C 170 [192, p] M = some (r_G M (28 * p), M) := r_kind ⟨a1, by omega⟩
    have km : E_C 171 [192, p] M = some (1, M) := by
      have h := r_many (M := M) (p := p) ⟨a1, by omega⟩
      rw [show M 193 (28 * p + 2).toNat = 1 from a4.1] at h
      exact h
    have ko : E_C 172 [192, p, 0] M = some (r_G M (28 * p + 3), M) := by
      have h := r_of (M := M) (p := p) (k := 0) ⟨a1, by omega⟩ ⟨by decide, by decide⟩
      rw [Int.add_zero] at h
      exact h
    have h3 : ∃ M', E_C 308 [192, r_G M (28 * p + 3)] M = some (0, M') ∧ r_ev M M' := by
      rcases a5 with h | h | h
      · exact r_gm_lo_308 hE (by omega) (Or.inl h)
      · exact r_gm_lo_308 hE (by omega) (Or.inr h)
      · exact r_gm_fd_308 hE (by omega) h
    obtain ⟨M', k, hM'⟩ := h3
    have w1 : e_w (0 + 1) = 1 := a_w_id (by decide) (by decide)
    have k2 : E_V 204 20 [192, p, 1] M' = some (0, M') := by
      have km' : E_C 171 [192, p] M' = some (1, M') := by
        have h := r_many (M := M') (p := p) ⟨a1, by omega⟩
        rw [show M' 193 (28 * p + 2).toNat = 1 from (congrFun (r_ev_G hM') _).trans a4.1] at h
        exact h
      rw [E_V_eq]
      show e_tv E_C (E_V 204) e_t204_20 [192, p, 1] M' = _
      unfold e_t204_20
      simp [zq_a, zq_b, zq_c, zq_d, zq_e, zq_f, zq_g, zq_h, zq_i, zq_j, zq_k, zq_l, zq_m, zq_n, zq_o, zq_p, zq_q, zq_r, zq_s, zq_t, zq_u, zq_v, zq_w, zq_x, zq_y, zq_z, zq_A, zq_B, zq_C, zq_D, zq_E, zq_F, zq_G, zq_H, zq_I, zq_J, zq_K, zq_L, ↓zq_M, ↓zq_N, ↓zq_O, ↓zq_P, ↓zq_Q, ↓zq_R, zq_S, zq_T, zq_U, zq_V, zq_W, zq_X, zq_Y, zq_Z, zq_0, zq_1, zq_2, zq_3, zq_4, zq_5, ↓zq_6, ↓zq_7, ↓zq_8, ↓zq_9, ↓zq_aa, zq_ab, zq_ac, zq_ad, zq_ae, zq_af, zq_ag, ↓zq_ah, ↓zq_ai, ↓zq_aj, zq_ak, ↓zq_al, ↓zq_am, e_b1, e_b2, x_o1, x_o2, km']
    have k3 : E_V 204 20 [192, p, 0] M = some (0, M') := by
      rw [E_V_eq]
      show e_tv E_C (E_V 204) e_t204_20 [192, p, 0] M = _
      unfold e_t204_20
      simp [zq_a, zq_b, zq_c, zq_d, zq_e, zq_f, zq_g, zq_h, zq_i, zq_j, zq_k, zq_l, zq_m, zq_n, zq_o, zq_p, zq_q, zq_r, zq_s, zq_t, zq_u, zq_v, zq_w, zq_x, zq_y, zq_z, zq_A, zq_B, zq_C, zq_D, zq_E, zq_F, zq_G, zq_H, zq_I, zq_J, zq_K, zq_L, ↓zq_M, ↓zq_N, ↓zq_O, ↓zq_P, ↓zq_Q, ↓zq_R, zq_S, zq_T, zq_U, zq_V, zq_W, zq_X, zq_Y, zq_Z, zq_0, zq_1, zq_2, zq_3, zq_4, zq_5, ↓zq_6, ↓zq_7, ↓zq_8, ↓zq_9, ↓zq_aa, zq_ab, zq_ac, zq_ad, zq_ae, zq_af, zq_ag, ↓zq_ah, ↓zq_ai, ↓zq_aj, zq_ak, ↓zq_al, ↓zq_am, e_b1, e_b2, x_o1, x_o2, km, ko, k]
      exact k2
    refine ⟨M', ?_, hM'⟩
    rw [r_ent (show e_rok 204 [192, p] = true from decide_eq_true r_ref)]
    show e_tv E_C (E_V 204) e_t204_0 [192, p, 0] M = _
    unfold e_t204_0
    simp [zq_a, zq_b, zq_c, zq_d, zq_e, zq_f, zq_g, zq_h, zq_i, zq_j, zq_k, zq_l, zq_m, zq_n, zq_o, zq_p, zq_q, zq_r, zq_s, zq_t, zq_u, zq_v, zq_w, zq_x, zq_y, zq_z, zq_A, zq_B, zq_C, zq_D, zq_E, zq_F, zq_G, zq_H, zq_I, zq_J, zq_K, zq_L, ↓zq_M, ↓zq_N, ↓zq_O, ↓zq_P, ↓zq_Q, ↓zq_R, zq_S, zq_T, zq_U, zq_V, zq_W, zq_X, zq_Y, zq_Z, zq_0, zq_1, zq_2, zq_3, zq_4, zq_5, ↓zq_6, ↓zq_7, ↓zq_8, ↓zq_9, ↓zq_aa, zq_ab, zq_ac, zq_ad, zq_ae, zq_af, zq_ag, ↓zq_ah, ↓zq_ai, ↓zq_aj, zq_ak, ↓zq_al, ↓zq_am, e_b1, e_b2, x_o1, x_o2, kk, a3, k3]
theorem r_gives_loop {b p : Int} (hb : b ≤ 40) : ∀ (m : Nat) (x2 : Int) (M : EM), r_E M → r_pt (r_G M) b p → (1000 - x2).toNat ≤ m → 0 ≤ x2 → ∃ M', E_V 203 2 [192, p, x2] M = some (0, M') ∧ r_ev M M' := by
  have hend : ∀ x2 M, r_E M → r_pt (r_G M) b p → ¬ (x2 < 1000) → ∃ M', E_V 203 2 [192, p, x2] M = some (0, M') ∧ r_ev M M' := by
    intro x2 M hE hp q
    obtain ⟨M', k, hM'⟩ := r_givesMore hE hb hp
    refine ⟨M', ?_, hM'⟩
    rw [E_V_eq]
    show e_tv E_C (E_V 203) e_t203_2 [192, p, x2] M = _
    unfold e_t203_2
    simp [zq_a, zq_b, zq_c, zq_d, zq_e, zq_f, zq_g, zq_h, zq_i, zq_j, zq_k, zq_l, zq_m, zq_n, zq_o, zq_p, zq_q, zq_r, zq_s, zq_t, zq_u, zq_v, zq_w, zq_x, zq_y, zq_z, zq_A, zq_B, zq_C, zq_D, zq_E, zq_F, zq_G, zq_H, zq_I, zq_J, zq_K, zq_L, ↓zq_M, ↓zq_N, ↓zq_O, ↓zq_P, ↓zq_Q, ↓zq_R, zq_S, zq_T, zq_U, zq_V, zq_W, zq_X, zq_Y, zq_Z, zq_0, zq_1, zq_2, zq_3, zq_4, zq_5, ↓zq_6, ↓zq_7, ↓zq_8, ↓zq_9, ↓zq_aa, zq_ab, zq_ac, zq_ad, zq_ae, zq_af, zq_ag, ↓zq_ah, ↓zq_ai, ↓zq_aj, zq_ak, ↓zq_al, ↓zq_am, e_b1, e_b2, x_o1, x_o2, q, k]
  intro m
  induction m with
  | zero => intro x2 M hE hp hm h0; exact hend x2 M hE hp (by omega)
  | succ m ih =>
    intro x2 M hE hp hm h0
    rcases x_lt x2 1000 with ⟨q, q_n⟩ | ⟨q, q_n⟩
    · have w4 : e_w (x2 + 1) = x2 + 1 := a_w_id (by omega) (by omega)
      have e1 := r_ev5 (M := M) (k := x2.toNat) (v := 0) hE.1 (by omega) (by decide)
      obtain ⟨M', k, hM'⟩ := ih (x2 + 1) _ (r_ev_E hE e1) (by rw [r_ev_G e1]; exact hp) (by omega) (by omega)
      refine ⟨M', ?_, r_ev_tr e1 hM'⟩
      rw [E_V_eq]
      show e_tv E_C (E_V 203) e_t203_2 [192, p, x2] M = _
      unfold e_t203_2
      simp [zq_a, zq_b, zq_c, zq_d, zq_e, zq_f, zq_g, zq_h, zq_i, zq_j, zq_k, zq_l, zq_m, zq_n, zq_o, zq_p, zq_q, zq_r, zq_s, zq_t, zq_u, zq_v, zq_w, zq_x, zq_y, zq_z, zq_A, zq_B, zq_C, zq_D, zq_E, zq_F, zq_G, zq_H, zq_I, zq_J, zq_K, zq_L, ↓zq_M, ↓zq_N, ↓zq_O, ↓zq_P, ↓zq_Q, ↓zq_R, zq_S, zq_T, zq_U, zq_V, zq_W, zq_X, zq_Y, zq_Z, zq_0, zq_1, zq_2, zq_3, zq_4, zq_5, ↓zq_6, ↓zq_7, ↓zq_8, ↓zq_9, ↓zq_aa, zq_ab, zq_ac, zq_ad, zq_ae, zq_af, zq_ag, ↓zq_ah, ↓zq_ai, ↓zq_aj, zq_ak, ↓zq_al, ↓zq_am, e_b1, e_b2, x_o1, x_o2, r_O25, q, q_n, r_st5 h0 q, q_n, w4, k]
    · exact hend x2 M hE hp q
theorem r_gives {b p : Int} {M : EM} (hE : r_E M) (hb : b ≤ 40) (hp : r_pt (r_G M) b p) : ∃ M', E_C 203 [192, p] M = some (0, M') ∧ r_ev M M' := by
  obtain ⟨M', k, hM'⟩ := r_gives_loop hb 1000 0 M hE hp (by decide) (by decide)
  refine ⟨M', ?_, hM'⟩
  rw [r_ent (show e_rok 203 [192, p] = true from decide_eq_true r_ref)]
  show e_tv E_C (E_V 203) e_t203_0 [192, p, 0] M = _
  unfold e_t203_0
  simp [zq_a, zq_b, zq_c, zq_d, zq_e, zq_f, zq_g, zq_h, zq_i, zq_j, zq_k, zq_l, zq_m, zq_n, zq_o, zq_p, zq_q, zq_r, zq_s, zq_t, zq_u, zq_v, zq_w, zq_x, zq_y, zq_z, zq_A, zq_B, zq_C, zq_D, zq_E, zq_F, zq_G, zq_H, zq_I, zq_J, zq_K, zq_L, ↓zq_M, ↓zq_N, ↓zq_O, ↓zq_P, ↓zq_Q, ↓zq_R, zq_S, zq_T, zq_U, zq_V, zq_W, zq_X, zq_Y, zq_Z, zq_0, zq_1, zq_2, zq_3, zq_4, zq_5, ↓zq_6, ↓zq_7, ↓zq_8, ↓zq_9, ↓zq_aa, zq_ab, zq_ac, zq_ad, zq_ae, zq_af, zq_ag, ↓zq_ah, ↓zq_ai, ↓zq_aj, zq_ak, ↓zq_al, ↓zq_am, e_b1, e_b2, x_o1, x_o2, k]
theorem r_best_loop {M : EM} (hM : a_M M) : ∀ (m : Nat) (x1 x2 : Int), (501 - x2).toNat ≤ m → 0 ≤ x2 → 0 ≤ x1 → x1 ≤ 500 → ∃ r, E_V 208 4 [192, x1, x2] M = some (r, M) ∧ 0 ≤ r ∧ r ≤ 500 := by
  have hend : ∀ x1 x2, ¬ (x2 ≤ 500) → 0 ≤ x1 → x1 ≤ 500 → ∃ r, E_V 208 4 [192, x1, x2] M = some (r, M) ∧ 0 ≤ r ∧ r ≤ 500 := by
    intro x1 x2 q h0 h1
    refine ⟨x1, ?_, h0, h1⟩
    rw [E_V_eq]
    show e_tv E_C (E_V 208) e_t208_4 [192, x1, x2] M = _
    unfold e_t208_4
    simp [zq_a, zq_b, zq_c, zq_d, zq_e, zq_f, zq_g, zq_h, zq_i, zq_j, zq_k, zq_l, zq_m, zq_n, zq_o, zq_p, zq_q, zq_r, zq_s, zq_t, zq_u, zq_v, zq_w, zq_x, zq_y, zq_z, zq_A, zq_B, zq_C, zq_D, zq_E, zq_F, zq_G, zq_H, zq_I, zq_J, zq_K, zq_L, ↓zq_M, ↓zq_N, ↓zq_O, ↓zq_P, ↓zq_Q, ↓zq_R, zq_S, zq_T, zq_U, zq_V, zq_W, zq_X, zq_Y, zq_Z, zq_0, zq_1, zq_2, zq_3, zq_4, zq_5, ↓zq_6, ↓zq_7, ↓zq_8, ↓zq_9, ↓zq_aa, zq_ab, zq_ac, zq_ad, zq_ae, zq_af, zq_ag, ↓zq_ah, ↓zq_ai, ↓zq_aj, zq_ak, ↓zq_al, ↓zq_am, e_b1, e_b2, x_o1, x_o2, q]
  intro m
  induction m with
  | zero => intro x1 x2 hm h2 h0 h1; exact hend x1 x2 (by omega) h0 h1
  | succ m ih =>
    intro x1 x2 hm h2 h0 h1
    rcases x_le x2 500 with ⟨q, q_n⟩ | ⟨q, q_n⟩
    · have w4 : e_w (x2 + 1) = x2 + 1 := a_w_id (by omega) (by omega)
      have g1 := r_rd5 (M := M) h0 (by omega)
      have g2 := r_rd5 (M := M) h2 (by omega)
      have hgo : ∀ y, 0 ≤ y → y ≤ 500 → ∃ r, E_V 208 32 [192, y, x2] M = some (r, M) ∧ 0 ≤ r ∧ r ≤ 500 := by
        intro y y0 y1
        obtain ⟨r, k, hr⟩ := ih y (x2 + 1) (by omega) (by omega) y0 y1
        refine ⟨r, ?_, hr⟩
        rw [E_V_eq]
        show e_tv E_C (E_V 208) e_t208_32 [192, y, x2] M = _
        unfold e_t208_32
        simp [zq_a, zq_b, zq_c, zq_d, zq_e, zq_f, zq_g, zq_h, zq_i, zq_j, zq_k, zq_l, zq_m, zq_n, zq_o, zq_p, zq_q, zq_r, zq_s, zq_t, zq_u, zq_v, zq_w, zq_x, zq_y, zq_z, zq_A, zq_B, zq_C, zq_D, zq_E, zq_F, zq_G, zq_H, zq_I, zq_J, zq_K, zq_L, ↓zq_M, ↓zq_N, ↓zq_O, ↓zq_P, ↓zq_Q, ↓zq_R, zq_S, zq_T, zq_U, zq_V, zq_W, zq_X, zq_Y, zq_Z, zq_0, zq_1, zq_2, zq_3, zq_4, zq_5, ↓zq_6, ↓zq_7, ↓zq_8, ↓zq_9, ↓zq_aa, zq_ab, zq_ac, zq_ad, zq_ae, zq_af, zq_ag, ↓zq_ah, ↓zq_ai, ↓zq_aj, zq_ak, ↓zq_al, ↓zq_am, e_b1, e_b2, x_o1, x_o2, w4, k]
      rcases x_lt (e_w (x1 * M 205 x1.toNat)) (e_w (x2 * M 205 x2.toNat)) with ⟨c, c_n⟩ | ⟨c, c_n⟩
      · obtain ⟨r, k, hr⟩ := hgo x2 h2 q
        refine ⟨r, ?_, hr⟩
        rw [E_V_eq]
        show e_tv E_C (E_V 208) e_t208_4 [192, x1, x2] M = _
        unfold e_t208_4
        simp [zq_a, zq_b, zq_c, zq_d, zq_e, zq_f, zq_g, zq_h, zq_i, zq_j, zq_k, zq_l, zq_m, zq_n, zq_o, zq_p, zq_q, zq_r, zq_s, zq_t, zq_u, zq_v, zq_w, zq_x, zq_y, zq_z, zq_A, zq_B, zq_C, zq_D, zq_E, zq_F, zq_G, zq_H, zq_I, zq_J, zq_K, zq_L, ↓zq_M, ↓zq_N, ↓zq_O, ↓zq_P, ↓zq_Q, ↓zq_R, zq_S, zq_T, zq_U, zq_V, zq_W, zq_X, zq_Y, zq_Z, zq_0, zq_1, zq_2, zq_3, zq_4, zq_5, ↓zq_6, ↓zq_7, ↓zq_8, ↓zq_9, ↓zq_aa, zq_ab, zq_ac, zq_ad, zq_ae, zq_af, zq_ag, ↓zq_ah, ↓zq_ai, ↓zq_aj, zq_ak, ↓zq_al, ↓zq_am, e_b1, e_b2, x_o1, x_o2, r_O25, q, q_n, g1, g2, c, c_n, k]
      · obtain ⟨r, k, hr⟩ := hgo x1 h0 h1
        refine ⟨r, ?_, hr⟩
        rw [E_V_eq]
        show e_tv E_C (E_V 208) e_t208_4 [192, x1, x2] M = _
        unfold e_t208_4
        simp [zq_a, zq_b, zq_c, zq_d, zq_e, zq_f, zq_g, zq_h, zq_i, zq_j, zq_k, zq_l, zq_m, zq_n, zq_o, zq_p, zq_q, zq_r, zq_s, zq_t, zq_u, zq_v, zq_w, zq_x, zq_y, zq_z, zq_A, zq_B, zq_C, zq_D, zq_E, zq_F, zq_G, zq_H, zq_I, zq_J, zq_K, zq_L, ↓zq_M, ↓zq_N, ↓zq_O, ↓zq_P, ↓zq_Q, ↓zq_R, zq_S, zq_T, zq_U, zq_V, zq_W, zq_X, zq_Y, zq_Z, zq_0, zq_1, zq_2, zq_3, zq_4, zq_5, ↓zq_6, ↓zq_7, ↓zq_8, ↓zq_9, ↓zq_aa, zq_ab, zq_ac, zq_ad, zq_ae, zq_af, zq_ag, ↓zq_ah, ↓zq_ai, ↓zq_aj, zq_ak, ↓zq_al, ↓zq_am, e_b1, e_b2, x_o1, x_o2, r_O25, q, q_n, g1, g2, c, c_n, k]
    · exact hend x1 x2 q h0 h1
theorem r_bestOf {M : EM} (hM : a_M M) : ∃ r, E_C 208 [192] M = some (r, M) ∧ 0 ≤ r ∧ r ≤ 500 := by
  obtain ⟨r, k, hr⟩ := r_best_loop hM 501 0 1 (by decide) (by decide) (by decide) (by decide)
  refine ⟨r, ?_, hr⟩
  rw [r_ent (show e_rok 208 [192] = true from decide_eq_true r_ref)]
  show e_tv E_C (E_V 208) e_t208_0 [192, 0, 0] M = _
  unfold e_t208_0
  simp [zq_a, zq_b, zq_c, zq_d, zq_e, zq_f, zq_g, zq_h, zq_i, zq_j, zq_k, zq_l, zq_m, zq_n, zq_o, zq_p, zq_q, zq_r, zq_s, zq_t, zq_u, zq_v, zq_w, zq_x, zq_y, zq_z, zq_A, zq_B, zq_C, zq_D, zq_E, zq_F, zq_G, zq_H, zq_I, zq_J, zq_K, zq_L, ↓zq_M, ↓zq_N, ↓zq_O, ↓zq_P, ↓zq_Q, ↓zq_R, zq_S, zq_T, zq_U, zq_V, zq_W, zq_X, zq_Y, zq_Z, zq_0, zq_1, zq_2, zq_3, zq_4, zq_5, ↓zq_6, ↓zq_7, ↓zq_8, ↓zq_9, ↓zq_aa, zq_ab, zq_ac, zq_ad, zq_ae, zq_af, zq_ag, ↓zq_ah, ↓zq_ai, ↓zq_aj, zq_ak, ↓zq_al, ↓zq_am, e_b1, e_b2, x_o1, x_o2, k]
theorem r_bestPower {b p : Int} {M : EM} (hE : r_E M) (hb : b ≤ 40) (hp : r_pt (r_G M) b p) : ∃ r M', E_C 209 [192, p] M = some (r, M') ∧ r_ev M M' := by
  obtain ⟨M1, k1, e1⟩ := r_gives hE hb hp
  obtain ⟨u, ku, hu⟩ := r_bestOf e1.1
  have g1 := r_rd5 (M := M1) hu.1 (by omega)
  refine ⟨e_w (u * M1 205 u.toNat), M1, ?_, e1⟩
  rw [r_ent (show e_rok 209 [192, p] = true from decide_eq_true r_ref)]
  show e_tv E_C (E_V 209) e_t209_0 [192, p, 0] M = _
  unfold e_t209_0
  simp [zq_a, zq_b, zq_c, zq_d, zq_e, zq_f, zq_g, zq_h, zq_i, zq_j, zq_k, zq_l, zq_m, zq_n, zq_o, zq_p, zq_q, zq_r, zq_s, zq_t, zq_u, zq_v, zq_w, zq_x, zq_y, zq_z, zq_A, zq_B, zq_C, zq_D, zq_E, zq_F, zq_G, zq_H, zq_I, zq_J, zq_K, zq_L, ↓zq_M, ↓zq_N, ↓zq_O, ↓zq_P, ↓zq_Q, ↓zq_R, zq_S, zq_T, zq_U, zq_V, zq_W, zq_X, zq_Y, zq_Z, zq_0, zq_1, zq_2, zq_3, zq_4, zq_5, ↓zq_6, ↓zq_7, ↓zq_8, ↓zq_9, ↓zq_aa, zq_ab, zq_ac, zq_ad, zq_ae, zq_af, zq_ag, ↓zq_ah, ↓zq_ai, ↓zq_aj, zq_ak, ↓zq_al, ↓zq_am, e_b1, e_b2, x_o1, x_o2, r_O25, k1, ku, g1]
theorem r_power {u : Int} {M : EM} (hM : a_M M) (h0 : 0 ≤ u) : r_P 211 [192, u] M := by
  rcases x_lt 500 u with ⟨c, c_n⟩ | ⟨c, c_n⟩
  · refine ⟨0, ?_, by decide, by decide⟩
    rw [r_ent (show e_rok 211 [192, u] = true from decide_eq_true r_ref)]
    show e_tv E_C (E_V 211) e_t211_0 [192, u] M = _
    unfold e_t211_0
    simp [zq_a, zq_b, zq_c, zq_d, zq_e, zq_f, zq_g, zq_h, zq_i, zq_j, zq_k, zq_l, zq_m, zq_n, zq_o, zq_p, zq_q, zq_r, zq_s, zq_t, zq_u, zq_v, zq_w, zq_x, zq_y, zq_z, zq_A, zq_B, zq_C, zq_D, zq_E, zq_F, zq_G, zq_H, zq_I, zq_J, zq_K, zq_L, ↓zq_M, ↓zq_N, ↓zq_O, ↓zq_P, ↓zq_Q, ↓zq_R, zq_S, zq_T, zq_U, zq_V, zq_W, zq_X, zq_Y, zq_Z, zq_0, zq_1, zq_2, zq_3, zq_4, zq_5, ↓zq_6, ↓zq_7, ↓zq_8, ↓zq_9, ↓zq_aa, zq_ab, zq_ac, zq_ad, zq_ae, zq_af, zq_ag, ↓zq_ah, ↓zq_ai, ↓zq_aj, zq_ak, ↓zq_al, ↓zq_am, e_b1, e_b2, x_o1, x_o2, c, c_n]
  · have g1 := r_rd5 (M := M) h0 (by omega)
    refine ⟨e_w (u * M 205 u.toNat), ?_, a_w _⟩
    rw [r_ent (show e_rok 211 [192, u] = true from decide_eq_true r_ref)]
    show e_tv E_C (E_V 211) e_t211_0 [192, u] M = _
    unfold e_t211_0
    simp [zq_a, zq_b, zq_c, zq_d, zq_e, zq_f, zq_g, zq_h, zq_i, zq_j, zq_k, zq_l, zq_m, zq_n, zq_o, zq_p, zq_q, zq_r, zq_s, zq_t, zq_u, zq_v, zq_w, zq_x, zq_y, zq_z, zq_A, zq_B, zq_C, zq_D, zq_E, zq_F, zq_G, zq_H, zq_I, zq_J, zq_K, zq_L, ↓zq_M, ↓zq_N, ↓zq_O, ↓zq_P, ↓zq_Q, ↓zq_R, zq_S, zq_T, zq_U, zq_V, zq_W, zq_X, zq_Y, zq_Z, zq_0, zq_1, zq_2, zq_3, zq_4, zq_5, ↓zq_6, ↓zq_7, ↓zq_8, ↓zq_9, ↓zq_aa, zq_ab, zq_ac, zq_ad, zq_ae, zq_af, zq_ag, ↓zq_ah, ↓zq_ai, ↓zq_aj, zq_ak, ↓zq_al, ↓zq_am, e_b1, e_b2, x_o1, x_o2, r_O25, c, c_n, g1]
