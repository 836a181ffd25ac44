section
theorem r_204 {i : Int} {M : EM} (h0 : 0 ≤ i) (hi : i < 1330) : e_op 60 [204, i] M = some (M 204 i.toNat) := r_ld (n := 1330) (by decide) (by decide +kernel) (by decide +kernel) h0 hi
theorem r_s204 {i v : Int} {M : EM} (h0 : 0 ≤ i) (hi : i < 1330) : e_st 100 [204, i, v] M = some (e_up M 204 i.toNat v) := r_st (n := 1330) (by decide) (by decide +kernel) (by decide +kernel) h0 hi
/-- the row is kept -/
theorem r_tx_65 {d x4 : Int} : ∀ (m : Nat) (i : Nat) (M : EM), 1330 - i ≤ m → i ≤ 1330 → E_V 190 65 [192, d, 0, (i : Int), x4] M = E_V 190 95 [192, d, 0, 1330, x4] (e_up (r_cp M 193 204 i) 192 15 0) := by
  have hend : ∀ (i : Nat) (M : EM), ¬ (i < 1330) → i ≤ 1330 → E_V 190 65 [192, d, 0, (i : Int), x4] M = E_V 190 95 [192, d, 0, 1330, x4] (e_up (r_cp M 193 204 i) 192 15 0) := by
    intro i M q h1
    have hi : i = 1330 := by omega
    subst hi
    rw [r_cp_end M 193 204 1330 (by omega)]
    rw [E_V_eq]
    show e_tv E_C (E_V 190) e_t190_65 [192, d, 0, ((1330 : Nat) : Int), x4] M = _
    unfold e_t190_65
    simp [zq_a, zq_b, zq_c, zq_d, zq_e, zq_f, zq_g, zq_h, zq_i, zq_j, zq_k, zq_l, zq_m, zq_n, zq_o, zq_p, zq_q, zq_r, zq_s, zq_t, zq_u, zq_v, zq_w, zq_x, zq_y, zq_z, zq_A, zq_B, zq_C, zq_D, zq_E, zq_F, zq_G, zq_H, zq_I, zq_J, zq_K, zq_L, ↓zq_M, ↓zq_N, ↓zq_O, ↓zq_P, ↓zq_Q, ↓zq_R, zq_S, zq_T, zq_U, zq_V, zq_W, zq_X, zq_Y, zq_Z, zq_0, zq_1, zq_2, zq_3, zq_4, zq_5, ↓zq_6, ↓zq_7, ↓zq_8, ↓zq_9, ↓zq_aa, zq_ab, zq_ac, zq_ad, zq_ae, zq_af, zq_ag, ↓zq_ah, ↓zq_ai, ↓zq_aj, zq_ak, ↓zq_al, ↓zq_am, e_b1, e_b2, x_o1, x_o2, r_P15]
  intro m
  induction m with
  | zero => intro i M hm h1; exact hend i M (by omega) h1
  | succ m ih =>
    intro i M hm h1
    rcases Nat.lt_or_ge i 1330 with q | q
    · have q' : (i : Int) < 1330 := by omega
      have q'' : ¬ (1330 ≤ (i : Int)) := by omega
      have w1 : e_w ((i : Int) + 1) = ((i + 1 : Nat) : Int) := by rw [a_w_id (by omega) (by omega)]; omega
      have ld : e_op 60 [193, (i : Int)] M = some (M 193 i) := r_s (by omega) (by omega)
      have st : e_st 100 [204, (i : Int), M 193 i] M = some (e_up M 204 i (M 193 i)) := r_s204 (by omega) (by omega)
      have hrec := ih (i + 1) (e_up M 204 i (M 193 i)) (by omega) (by omega)
      rw [r_cp_step M 193 204 i q (by decide)] at hrec
      rw [← hrec]
      rw [E_V_eq]
      show e_tv E_C (E_V 190) e_t190_65 [192, d, 0, (i : Int), x4] M = _
      unfold e_t190_65
      simp only [e_tv, e_ev, e_sv]
      simp [e_b2, x_o2, r_O0, r_O19, q', q'', ld, st, w1]
    · exact hend i M (by omega) h1
/-- the row as it was -/
theorem r_tx_124 {d x3 : Int} : ∀ (m : Nat) (i : Nat) (M : EM), 1330 - i ≤ m → i ≤ 1330 → E_V 190 124 [192, d, 0, x3, (i : Int)] M = some (e_w (-2000 - x3), r_cp M 204 193 i) := by
  have hend : ∀ (i : Nat) (M : EM), ¬ (i < 1330) → i ≤ 1330 → E_V 190 124 [192, d, 0, x3, (i : Int)] M = some (e_w (-2000 - x3), r_cp M 204 193 i) := by
    intro i M q h1
    have hi : i = 1330 := by omega
    subst hi
    rw [r_cp_end M 204 193 1330 (by omega)]
    rw [E_V_eq]
    show e_tv E_C (E_V 190) e_t190_124 [192, d, 0, x3, ((1330 : Nat) : Int)] M = _
    unfold e_t190_124
    simp [zq_a, zq_b, zq_c, zq_d, zq_e, zq_f, zq_g, zq_h, zq_i, zq_j, zq_k, zq_l, zq_m, zq_n, zq_o, zq_p, zq_q, zq_r, zq_s, zq_t, zq_u, zq_v, zq_w, zq_x, zq_y, zq_z, zq_A, zq_B, zq_C, zq_D, zq_E, zq_F, zq_G, zq_H, zq_I, zq_J, zq_K, zq_L, ↓zq_M, ↓zq_N, ↓zq_O, ↓zq_P, ↓zq_Q, ↓zq_R, zq_S, zq_T, zq_U, zq_V, zq_W, zq_X, zq_Y, zq_Z, zq_0, zq_1, zq_2, zq_3, zq_4, zq_5, ↓zq_6, ↓zq_7, ↓zq_8, ↓zq_9, ↓zq_aa, zq_ab, zq_ac, zq_ad, zq_ae, zq_af, zq_ag, ↓zq_ah, ↓zq_ai, ↓zq_aj, zq_ak, ↓zq_al, ↓zq_am, e_b1, e_b2, x_o1, x_o2]
  intro m
  induction m with
  | zero => intro i M hm h1; exact hend i M (by omega) h1
  | succ m ih =>
    intro i M hm h1
    rcases Nat.lt_or_ge i 1330 with q | q
    · have q' : (i : Int) < 1330 := by omega
      have q'' : ¬ (1330 ≤ (i : Int)) := by omega
      have w1 : e_w ((i : Int) + 1) = ((i + 1 : Nat) : Int) := by rw [a_w_id (by omega) (by omega)]; omega
      have ld : e_op 60 [204, (i : Int)] M = some (M 204 i) := r_204 (by omega) (by omega)
      have st : e_st 100 [193, (i : Int), M 204 i] M = some (e_up M 193 i (M 204 i)) := r_stw (by omega) (by omega)
      have hrec := ih (i + 1) (e_up M 193 i (M 204 i)) (by omega) (by omega)
      rw [r_cp_step M 204 193 i q (by decide)] at hrec
      rw [← hrec]
      rw [E_V_eq]
      show e_tv E_C (E_V 190) e_t190_124 [192, d, 0, x3, (i : Int)] M = _
      unfold e_t190_124
      simp only [e_tv, e_ev, e_sv]
      simp [e_b2, x_o2, r_O0, r_O19, q', q'', ld, st, w1]
    · exact hend i M (by omega) h1
/-- while STATEMENTS are made; M0: as the text began -/
def r_TV (M0 N : EM) : Prop := a_M N ∧ r_W (r_G N) ∧ r_N99 N ∧ (∀ id k, id ≠ 193 → id ≠ 204 → ¬ (id = 192 ∧ (15 ≤ k ∧ k ≤ 18)) → N id k = M0 id k) ∧ (∀ i, 1120 ≤ i → i ≠ 1198 → r_G N i = r_G M0 i) ∧ (∀ k, k < 1330 → N 204 k = M0 193 k) ∧ (∀ k, 1330 ≤ k → N 204 k = M0 204 k) ∧ 0 ≤ N 192 15 ∧ r_bl N
def r_wX : AW := [(193, 0, 1119), (193, 1198, 1198), (204, 0, 1329)]
theorem r_TV_fin {M0 M' : EM} (hJ : r_J M0) (hM : a_M M') (hW : r_W (r_G M')) (h4 : ∀ id k, id ≠ 193 → id ≠ 204 → ¬ (id = 192 ∧ (15 ≤ k ∧ k ≤ 18)) → M' id k = M0 id k) (h5 : ∀ i, 1120 ≤ i → i ≠ 1198 → r_G M' i = r_G M0 i) (h7 : ∀ k, 1330 ≤ k → M' 204 k = M0 204 k) : r_J M' ∧ a_fr (r_wX ++ r_wq) M0 M' := by
  obtain ⟨j1, j2, j3, j4, j5⟩ := hJ
  have e2 : r_Gi M' = r_Gi M0 := funext fun i => h4 _ _ (by decide) (by decide) (by omega)
  refine ⟨⟨hM, fun j hj => ?_, hW, ?_, ?_⟩, fun id k hw => ?_⟩
  · rw [h4 _ _ (by decide) (by decide) (by omega)]; exact j2 j hj
  · rw [h4 _ _ (by decide) (by decide) (by omega), e2]; exact j4
  · rw [h4 _ _ (by decide) (by decide) (by omega)]; exact j5
  · have w1 := hw (193, 0, 1119) (by decide)
    have w2 := hw (193, 1198, 1198) (by decide)
    have w3 := hw (204, 0, 1329) (by decide)
    have w4 := hw (192, 10, 35) (by decide)
    by_cases c : id = 193
    · subst c
      have a1 : ¬ (k ≤ 1119) := fun e => w1 ⟨rfl, Nat.zero_le _, e⟩
      have a2 : k ≠ 1198 := fun e => w2 ⟨rfl, by show 1198 ≤ k; omega, by show k ≤ 1198; omega⟩
      have h := h5 (k : Int) (by omega) (by omega)
      exact h
    · by_cases c2 : id = 204
      · subst c2
        exact h7 k (by
          have a1 : ¬ (k ≤ 1329) := fun e => w3 ⟨rfl, Nat.zero_le _, e⟩
          omega)
      · exact h4 id k c c2 (fun e => w4 ⟨e.1.symm, by show 10 ≤ k; omega, by show k ≤ 35; omega⟩)
theorem r_tx_95 {d : Int} {M0 : EM} (hJ : r_J M0) : ∀ (m : Nat) (x3 x4 : Int) (N : EM), r_TV M0 N → (N 192 17 - N 192 15).toNat ≤ m → ∃ r M', E_V 190 95 [192, d, 0, x3, x4] N = some (r, M') ∧ r_J M' ∧ a_fr (r_wX ++ r_wq) M0 M' := by
  have hend : ∀ (x3 x4 : Int) (N : EM), r_TV M0 N → ¬ (N 192 15 < N 192 17) → ∃ r M', E_V 190 95 [192, d, 0, x3, x4] N = some (r, M') ∧ r_J M' ∧ a_fr (r_wX ++ r_wq) M0 M' := by
    intro x3 x4 N hv q
    obtain ⟨v1, v2, v3, v4, v5, v6, v7, v8, v9⟩ := hv
    have l1 : e_op 60 [193, 1198] N = some (r_G N 1198) := r_rd (by decide) (by decide)
    have l2 : e_op 60 [204, 1198] N = some (N 204 1198) := r_204 (by decide) (by decide)
    refine ⟨e_w (r_G N 1198 - N 204 1198), N, ?_, r_TV_fin hJ v1 v2 v4 v5 v7⟩
    rw [E_V_eq]
    show e_tv E_C (E_V 190) e_t190_95 [192, d, 0, x3, x4] N = _
    unfold e_t190_95
    simp [zq_a, zq_b, zq_c, zq_d, zq_e, zq_f, zq_g, zq_h, zq_i, zq_j, zq_k, zq_l, zq_m, zq_n, zq_o, zq_p, zq_q, zq_r, zq_s, zq_t, zq_u, zq_v, zq_w, zq_x, zq_y, zq_z, zq_A, zq_B, zq_C, zq_D, zq_E, zq_F, zq_G, zq_H, zq_I, zq_J, zq_K, zq_L, ↓zq_M, ↓zq_N, ↓zq_O, ↓zq_P, ↓zq_Q, ↓zq_R, zq_S, zq_T, zq_U, zq_V, zq_W, zq_X, zq_Y, zq_Z, zq_0, zq_1, zq_2, zq_3, zq_4, zq_5, ↓zq_6, ↓zq_7, ↓zq_8, ↓zq_9, ↓zq_aa, zq_ab, zq_ac, zq_ad, zq_ae, zq_af, zq_ag, ↓zq_ah, ↓zq_ai, ↓zq_aj, zq_ak, ↓zq_al, ↓zq_am, e_b1, e_b2, x_o1, x_o2, r_O0, r_O19, r_F15, r_F17, q, l1, l2]
  intro m
  induction m with
  | zero => intro x3 x4 N hv hm; exact hend x3 x4 N hv (by omega)
  | succ m ih =>
    intro x3 x4 N hv hm
    rcases x_lt (N 192 15) (N 192 17) with ⟨q, q_n⟩ | ⟨q, q_n⟩
    · have hv' := hv
      obtain ⟨v1, v2, v3, v4, v5, v6, v7, v8, v9⟩ := hv'
      obtain ⟨b1, b2, b3⟩ := v9
      have back : ∀ N1 : EM, a_M N1 → (∀ id k, id ≠ 193 → ¬ (id = 192 ∧ (k = 15 ∨ k = 18)) → N1 id k = N id k) → (∀ i, 1120 ≤ i → i ≠ 1198 → r_G N1 i = r_G N i) → r_J (r_cp N1 204 193 0) ∧ a_fr (r_wX ++ r_wq) M0 (r_cp N1 204 193 0) := by
        intro N1 n1 n2 n5
        have hi : ∀ i, i < 1330 → r_G (r_cp N1 204 193 0) i = r_G M0 i := fun i hi => by
          have e1 : r_G (r_cp N1 204 193 0) i = N1 204 i.toNat := r_cp_t (by omega)
          rw [e1, n2 _ _ (by decide) (by omega), v6 _ (by omega)]
          rfl
        refine r_TV_fin hJ (r_cp_M ⟨by decide, by decide +kernel⟩ ⟨by decide, by decide +kernel, by decide +kernel⟩ n1) (r_W_far (r_J_E hJ).2.1 (fun i h => hi i (by omega)) (r_Z_eq (r_Zof hJ) (fun i i0 i1 => hi i (by omega)))) (fun id k h1 h2 h3 => ?_) (fun i i0 i1 => ?_) (fun k hk => ?_)
        · rw [r_cp_n h1, n2 id k h1 (by omega)]
          exact v4 id k h1 h2 h3
        · rcases x_lt i 1330 with ⟨hi2, hi2_n⟩ | ⟨hi2, hi2_n⟩
          · exact hi i hi2
          · have e1 : r_G (r_cp N1 204 193 0) i = r_G N1 i := if_neg (fun c => by have := c.2.2; omega)
            rw [e1, n5 i i0 i1]
            exact v5 i i0 i1
        · rw [r_cp_n (by decide), n2 _ _ (by decide) (by omega)]
          exact v7 k hk
      have T : r_ty N := ⟨v1, v8, by omega, b1, b2, b3⟩
      rcases r_makes v2 T v3 ⟨v8, by omega⟩ with ⟨-, k1⟩ | ⟨s, N1, k1, n1, n2, n3, n5, n6, n7, n8⟩
      · have k2 := r_tx_124 (d := d) (x3 := N 192 15) 1330 0 N (by decide) (by decide)
        obtain ⟨z1, z2⟩ := back N v1 (fun _ _ _ _ => rfl) (fun _ _ _ => rfl)
        refine ⟨e_w (-2000 - N 192 15), r_cp N 204 193 0, ?_, z1, z2⟩
        rw [E_V_eq]
        show e_tv E_C (E_V 190) e_t190_95 [192, d, 0, x3, x4] N = _
        unfold e_t190_95
        simp [zq_a, zq_b, zq_c, zq_d, zq_e, zq_f, zq_g, zq_h, zq_i, zq_j, zq_k, zq_l, zq_m, zq_n, zq_o, zq_p, zq_q, zq_r, zq_s, zq_t, zq_u, zq_v, zq_w, zq_x, zq_y, zq_z, zq_A, zq_B, zq_C, zq_D, zq_E, zq_F, zq_G, zq_H, zq_I, zq_J, zq_K, zq_L, ↓zq_M, ↓zq_N, ↓zq_O, ↓zq_P, ↓zq_Q, ↓zq_R, zq_S, zq_T, zq_U, zq_V, zq_W, zq_X, zq_Y, zq_Z, zq_0, zq_1, zq_2, zq_3, zq_4, zq_5, ↓zq_6, ↓zq_7, ↓zq_8, ↓zq_9, ↓zq_aa, zq_ab, zq_ac, zq_ad, zq_ae, zq_af, zq_ag, ↓zq_ah, ↓zq_ai, ↓zq_aj, zq_ak, ↓zq_al, ↓zq_am, e_b1, e_b2, x_o1, x_o2, r_F15, r_F17, q, q_n, k1]
        exact k2
      · by_cases hs : s = 0
        · subst hs
          have k2 := r_tx_124 (d := d) (x3 := N 192 15) 1330 0 N1 (by decide) (by decide)
          obtain ⟨z1, z2⟩ := back N1 n1 n2 n5
          refine ⟨e_w (-2000 - N 192 15), r_cp N1 204 193 0, ?_, z1, z2⟩
          rw [E_V_eq]
          show e_tv E_C (E_V 190) e_t190_95 [192, d, 0, x3, x4] N = _
          unfold e_t190_95
          simp [zq_a, zq_b, zq_c, zq_d, zq_e, zq_f, zq_g, zq_h, zq_i, zq_j, zq_k, zq_l, zq_m, zq_n, zq_o, zq_p, zq_q, zq_r, zq_s, zq_t, zq_u, zq_v, zq_w, zq_x, zq_y, zq_z, zq_A, zq_B, zq_C, zq_D, zq_E, zq_F, zq_G, zq_H, zq_I, zq_J, zq_K, zq_L, ↓zq_M, ↓zq_N, ↓zq_O, ↓zq_P, ↓zq_Q, ↓zq_R, zq_S, zq_T, zq_U, zq_V, zq_W, zq_X, zq_Y, zq_Z, zq_0, zq_1, zq_2, zq_3, zq_4, zq_5, ↓zq_6, ↓zq_7, ↓zq_8, ↓zq_9, ↓zq_aa, zq_ab, zq_ac, zq_ad, zq_ae, zq_af, zq_ag, ↓zq_ah, ↓zq_ai, ↓zq_aj, zq_ak, ↓zq_al, ↓zq_am, e_b1, e_b2, x_o1, x_o2, r_F15, r_F17, q, q_n, k1]
          exact k2
        · have e17 := n2 192 17 (by decide) (by omega)
          have e16 := n2 192 16 (by decide) (by omega)
          obtain ⟨r, M', k, t⟩ := ih (N 192 15) x4 N1 ⟨n1, n8 hs, n3, fun id k h1 h2 h3 => (n2 id k h1 (by omega)).trans (v4 id k h1 h2 h3), fun i i0 i1 => (n5 i i0 i1).trans (v5 i i0 i1), fun k hk => (n2 _ _ (by decide) (by omega)).trans (v6 k hk), fun k hk => (n2 _ _ (by decide) (by omega)).trans (v7 k hk), by omega, ⟨by omega, by omega, by omega⟩⟩ (by omega)
          refine ⟨r, M', ?_, t⟩
          rw [E_V_eq]
          show e_tv E_C (E_V 190) e_t190_95 [192, d, 0, x3, x4] N = _
          unfold e_t190_95
          simp [zq_a, zq_b, zq_c, zq_d, zq_e, zq_f, zq_g, zq_h, zq_i, zq_j, zq_k, zq_l, zq_m, zq_n, zq_o, zq_p, zq_q, zq_r, zq_s, zq_t, zq_u, zq_v, zq_w, zq_x, zq_y, zq_z, zq_A, zq_B, zq_C, zq_D, zq_E, zq_F, zq_G, zq_H, zq_I, zq_J, zq_K, zq_L, ↓zq_M, ↓zq_N, ↓zq_O, ↓zq_P, ↓zq_Q, ↓zq_R, zq_S, zq_T, zq_U, zq_V, zq_W, zq_X, zq_Y, zq_Z, zq_0, zq_1, zq_2, zq_3, zq_4, zq_5, ↓zq_6, ↓zq_7, ↓zq_8, ↓zq_9, ↓zq_aa, zq_ab, zq_ac, zq_ad, zq_ae, zq_af, zq_ag, ↓zq_ah, ↓zq_ai, ↓zq_aj, zq_ak, ↓zq_al, ↓zq_am, e_b1, e_b2, x_o1, x_o2, r_F15, r_F17, q, q_n, k1, hs, k]
    · exact hend x3 x4 N hv q
theorem r_tx_36 {d x3 x4 : Int} {M0 : EM} (hJ : r_J M0) : ∀ (m : Nat) (N : EM), r_ty N → (∀ id k, ¬ (id = 192 ∧ (15 ≤ k ∧ k ≤ 18)) → N id k = M0 id k) → (N 192 17 - N 192 15).toNat ≤ m → ∃ r M', E_V 190 36 [192, d, 0, x3, x4] N = some (r, M') ∧ r_J M' ∧ a_fr (r_wX ++ r_wq) M0 M' := by
  have hJ0 := hJ
  -- behind a STATEMENT that was read, at the end of the TEXT
  have go : ∀ N1 : EM, r_ty N1 → r_N99 N1 → (∀ id k, ¬ (id = 192 ∧ (15 ≤ k ∧ k ≤ 18)) → N1 id k = M0 id k) → ∃ r M', E_V 190 65 [192, d, 0, 0, x4] N1 = some (r, M') ∧ r_J M' ∧ a_fr (r_wX ++ r_wq) M0 M' := by
    intro N1 T1 hn h1
    have k1 := r_tx_65 (d := d) (x4 := x4) 1330 0 N1 (by decide) (by decide)
    obtain ⟨t1, t2, t3, t4, t5, t6⟩ := T1
    have c0 : ∀ id k, id ≠ 204 → ¬ (id = 192 ∧ k = 15) → (e_up (r_cp N1 193 204 0) 192 15 0) id k = N1 id k := fun id k h2 h3 => (c_up_n h3).trans (r_cp_n h2)
    have eG : r_G (e_up (r_cp N1 193 204 0) 192 15 0) = r_G M0 := funext fun i => (c0 _ _ (by decide) (by omega)).trans (h1 _ _ (by omega))
    have hv : r_TV M0 (e_up (r_cp N1 193 204 0) 192 15 0) := by
      refine ⟨r_up (by decide) (by decide +kernel) (by decide +kernel) (by decide) (r_cp_M ⟨by decide, by decide +kernel⟩ ⟨by decide, by decide +kernel, by decide +kernel⟩ t1), by rw [eG]; exact (r_J_E hJ0).2.1, ?_, fun id k h2 h3 h4 => (c0 id k h3 (by omega)).trans (h1 id k h4), fun i _ _ => by rw [eG], fun k hk => ?_, fun k hk => ?_, by rw [c_up_s]; decide, ?_, ?_, ?_⟩
      · unfold r_N99
        rw [c0 _ _ (by decide) (by omega)]
        exact hn
      · refine (c_up_n (fun hc => absurd hc.1 (by decide))).trans ((r_cp_t hk).trans (h1 _ _ (by omega)))
      · refine (c_up_n (fun hc => absurd hc.1 (by decide))).trans ((if_neg (fun c => by have := c.2.2; omega)).trans (h1 _ _ (by omega)))
      · rw [c0 _ _ (by decide) (by omega)]; exact t4
      · rw [c0 _ _ (by decide) (by omega)]; exact t5
      · rw [c0 _ _ (by decide) (by omega)]; exact t6
    obtain ⟨r, M', k, t⟩ := r_tx_95 (d := d) hJ0 _ 1330 x4 _ hv (Nat.le_refl _)
    exact ⟨r, M', k1.trans k, t⟩
  intro m
  induction m with
  | zero =>
    intro N T h1 hm
    obtain ⟨s, N1, k1, t1, hs, hs1⟩ := r_rStat T
    have T1 := r_tt_ty T t1
    have h2 : ∀ id k, ¬ (id = 192 ∧ (15 ≤ k ∧ k ≤ 18)) → N1 id k = M0 id k := fun id k h => (t1.2.1 id k (by omega)).trans (h1 id k h)
    rcases hs with hs | hs
    · subst hs
      obtain ⟨z1, z2⟩ := r_TV_fin hJ0 T1.1 (by rw [show r_G N1 = r_G M0 from funext fun i => h2 _ _ (by omega)]; exact (r_J_E hJ0).2.1) (fun id k _ _ h => h2 id k h) (fun i _ _ => h2 _ _ (by omega)) (fun k _ => h2 _ _ (by omega))
      refine ⟨e_w (-1000 - N1 192 15), N1, ?_, z1, z2⟩
      rw [E_V_eq]
      show e_tv E_C (E_V 190) e_t190_36 [192, d, 0, x3, x4] N = _
      unfold e_t190_36
      simp [zq_a, zq_b, zq_c, zq_d, zq_e, zq_f, zq_g, zq_h, zq_i, zq_j, zq_k, zq_l, zq_m, zq_n, zq_o, zq_p, zq_q, zq_r, zq_s, zq_t, zq_u, zq_v, zq_w, zq_x, zq_y, zq_z, zq_A, zq_B, zq_C, zq_D, zq_E, zq_F, zq_G, zq_H, zq_I, zq_J, zq_K, zq_L, ↓zq_M, ↓zq_N, ↓zq_O, ↓zq_P, ↓zq_Q, ↓zq_R, zq_S, zq_T, zq_U, zq_V, zq_W, zq_X, zq_Y, zq_Z, zq_0, zq_1, zq_2, zq_3, zq_4, zq_5, ↓zq_6, ↓zq_7, ↓zq_8, ↓zq_9, ↓zq_aa, zq_ab, zq_ac, zq_ad, zq_ae, zq_af, zq_ag, ↓zq_ah, ↓zq_ai, ↓zq_aj, zq_ak, ↓zq_al, ↓zq_am, e_b1, e_b2, x_o1, x_o2, r_F15, k1]
    · have g := hs1 hs
      have e17 := r_tt_17 t1
      have l3 := t1.2.2.1
      have q : N1 192 17 ≤ N1 192 15 := by omega
      have q' : ¬ (N1 192 15 < N1 192 17) := by omega
      obtain ⟨r, M', k, t⟩ := go N1 T1 g.2 h2
      refine ⟨r, M', ?_, t⟩
      subst hs
      rw [E_V_eq]
      show e_tv E_C (E_V 190) e_t190_36 [192, d, 0, x3, x4] N = _
      unfold e_t190_36
      simp [zq_a, zq_b, zq_c, zq_d, zq_e, zq_f, zq_g, zq_h, zq_i, zq_j, zq_k, zq_l, zq_m, zq_n, zq_o, zq_p, zq_q, zq_r, zq_s, zq_t, zq_u, zq_v, zq_w, zq_x, zq_y, zq_z, zq_A, zq_B, zq_C, zq_D, zq_E, zq_F, zq_G, zq_H, zq_I, zq_J, zq_K, zq_L, ↓zq_M, ↓zq_N, ↓zq_O, ↓zq_P, ↓zq_Q, ↓zq_R, zq_S, zq_T, zq_U, zq_V, zq_W, zq_X, zq_Y, zq_Z, zq_0, zq_1, zq_2, zq_3, zq_4, zq_5, ↓zq_6, ↓zq_7, ↓zq_8, ↓zq_9, ↓zq_aa, zq_ab, zq_ac, zq_ad, zq_ae, zq_af, zq_ag, ↓zq_ah, ↓zq_ai, ↓zq_aj, zq_ak, ↓zq_al, ↓zq_am, e_b1, e_b2, x_o1, x_o2, r_F15, r_F17, k1, q, q', k]
  | succ m ih =>
    intro N T h1 hm
    obtain ⟨s, N1, k1, t1, hs, hs1⟩ := r_rStat T
    have T1 := r_tt_ty T t1
    have h2 : ∀ id k, ¬ (id = 192 ∧ (15 ≤ k ∧ k ≤ 18)) → N1 id k = M0 id k := fun id k h => (t1.2.1 id k (by omega)).trans (h1 id k h)
    rcases hs with hs | hs
    · subst hs
      obtain ⟨z1, z2⟩ := r_TV_fin hJ0 T1.1 (by rw [show r_G N1 = r_G M0 from funext fun i => h2 _ _ (by omega)]; exact (r_J_E hJ0).2.1) (fun id k _ _ h => h2 id k h) (fun i _ _ => h2 _ _ (by omega)) (fun k _ => h2 _ _ (by omega))
      refine ⟨e_w (-1000 - N1 192 15), N1, ?_, z1, z2⟩
      rw [E_V_eq]
      show e_tv E_C (E_V 190) e_t190_36 [192, d, 0, x3, x4] N = _
      unfold e_t190_36
      simp [zq_a, zq_b, zq_c, zq_d, zq_e, zq_f, zq_g, zq_h, zq_i, zq_j, zq_k, zq_l, zq_m, zq_n, zq_o, zq_p, zq_q, zq_r, zq_s, zq_t, zq_u, zq_v, zq_w, zq_x, zq_y, zq_z, zq_A, zq_B, zq_C, zq_D, zq_E, zq_F, zq_G, zq_H, zq_I, zq_J, zq_K, zq_L, ↓zq_M, ↓zq_N, ↓zq_O, ↓zq_P, ↓zq_Q, ↓zq_R, zq_S, zq_T, zq_U, zq_V, zq_W, zq_X, zq_Y, zq_Z, zq_0, zq_1, zq_2, zq_3, zq_4, zq_5, ↓zq_6, ↓zq_7, ↓zq_8, ↓zq_9, ↓zq_aa, zq_ab, zq_ac, zq_ad, zq_ae, zq_af, zq_ag, ↓zq_ah, ↓zq_ai, ↓zq_aj, zq_ak, ↓zq_al, ↓zq_am, e_b1, e_b2, x_o1, x_o2, r_F15, k1]
    · have g := hs1 hs
      have e17 := r_tt_17 t1
      rcases x_le (N1 192 17) (N1 192 15) with ⟨q, q_n⟩ | ⟨q, q_n⟩
      · obtain ⟨r, M', k, t⟩ := go N1 T1 g.2 h2
        refine ⟨r, M', ?_, t⟩
        subst hs
        rw [E_V_eq]
        show e_tv E_C (E_V 190) e_t190_36 [192, d, 0, x3, x4] N = _
        unfold e_t190_36
        simp [zq_a, zq_b, zq_c, zq_d, zq_e, zq_f, zq_g, zq_h, zq_i, zq_j, zq_k, zq_l, zq_m, zq_n, zq_o, zq_p, zq_q, zq_r, zq_s, zq_t, zq_u, zq_v, zq_w, zq_x, zq_y, zq_z, zq_A, zq_B, zq_C, zq_D, zq_E, zq_F, zq_G, zq_H, zq_I, zq_J, zq_K, zq_L, ↓zq_M, ↓zq_N, ↓zq_O, ↓zq_P, ↓zq_Q, ↓zq_R, zq_S, zq_T, zq_U, zq_V, zq_W, zq_X, zq_Y, zq_Z, zq_0, zq_1, zq_2, zq_3, zq_4, zq_5, ↓zq_6, ↓zq_7, ↓zq_8, ↓zq_9, ↓zq_aa, zq_ab, zq_ac, zq_ad, zq_ae, zq_af, zq_ag, ↓zq_ah, ↓zq_ai, ↓zq_aj, zq_ak, ↓zq_al, ↓zq_am, e_b1, e_b2, x_o1, x_o2, r_F15, r_F17, k1, q, q_n, k]
      · obtain ⟨r, M', k, t⟩ := ih N1 T1 h2 (by omega)
        refine ⟨r, M', ?_, t⟩
        subst hs
        rw [E_V_eq]
        show e_tv E_C (E_V 190) e_t190_36 [192, d, 0, x3, x4] N = _
        unfold e_t190_36
        simp [zq_a, zq_b, zq_c, zq_d, zq_e, zq_f, zq_g, zq_h, zq_i, zq_j, zq_k, zq_l, zq_m, zq_n, zq_o, zq_p, zq_q, zq_r, zq_s, zq_t, zq_u, zq_v, zq_w, zq_x, zq_y, zq_z, zq_A, zq_B, zq_C, zq_D, zq_E, zq_F, zq_G, zq_H, zq_I, zq_J, zq_K, zq_L, ↓zq_M, ↓zq_N, ↓zq_O, ↓zq_P, ↓zq_Q, ↓zq_R, zq_S, zq_T, zq_U, zq_V, zq_W, zq_X, zq_Y, zq_Z, zq_0, zq_1, zq_2, zq_3, zq_4, zq_5, ↓zq_6, ↓zq_7, ↓zq_8, ↓zq_9, ↓zq_aa, zq_ab, zq_ac, zq_ad, zq_ae, zq_af, zq_ag, ↓zq_ah, ↓zq_ai, ↓zq_aj, zq_ak, ↓zq_al, ↓zq_am, e_b1, e_b2, x_o1, x_o2, r_F15, r_F17, k1, q, q_n, k]
theorem r_text {d : Int} {M : EM} (hJ : r_J M) : r_T r_wX 190 [192, d] M := by
  obtain ⟨n, kn, -, hn⟩ := r_wrongRow d 0 M
  by_cases q : n = 0
  · subst q
    have hd := hn rfl
    have hz := hJ.2.1 d.toNat (by omega)
    have w1 : e_w (120 * d) = 120 * d := a_w_id (by omega) (by omega)
    have ls := fun M => (r_isD d M hd).2.2.1
    obtain ⟨u1, v1⟩ := r_qfld (k := 16) (v := 120 * d) (by decide) (by decide) ⟨by omega, by omega⟩ hJ
    obtain ⟨u2, v2⟩ := r_qfld (k := 17) (v := M 197 d.toNat) (by decide) (by decide) ⟨by omega, by omega⟩ u1
    obtain ⟨u3, v3⟩ := r_qfld (k := 15) (v := 0) (by decide) (by decide) (by decide) u2
    have p15 : (e_up (e_up (e_up M 192 16 (120 * d)) 192 17 (M 197 d.toNat)) 192 15 0) 192 15 = 0 := c_up_s
    have p16 : (e_up (e_up (e_up M 192 16 (120 * d)) 192 17 (M 197 d.toNat)) 192 15 0) 192 16 = 120 * d := (r_ff (by decide)).trans ((r_ff (by decide)).trans c_up_s)
    have p17 : (e_up (e_up (e_up M 192 16 (120 * d)) 192 17 (M 197 d.toNat)) 192 15 0) 192 17 = M 197 d.toNat := (r_ff (by decide)).trans c_up_s
    have e97 : (e_up M 192 16 (120 * d)) 197 d.toNat = M 197 d.toNat := c_up_n (fun hc => absurd hc.1 (by decide))
    obtain ⟨r, M', k, t1, t2⟩ := r_tx_36 (d := d) (x3 := 0) (x4 := 0) hJ _ (e_up (e_up (e_up M 192 16 (120 * d)) 192 17 (M 197 d.toNat)) 192 15 0) ⟨u3.1, by rw [p15]; decide, by rw [p15]; decide, by rw [p16]; omega, by rw [p16]; omega, by rw [p17]; exact hz.2⟩ (fun id k h => (c_up_n (fun hc => h ⟨hc.1, by omega⟩)).trans ((c_up_n (fun hc => h ⟨hc.1, by omega⟩)).trans (c_up_n (fun hc => h ⟨hc.1, by omega⟩)))) (Nat.le_refl _)
    refine ⟨r, M', ?_, t1, t2⟩
    rw [r_ent (show e_rok 190 [192, d] = true from decide_eq_true r_ref)]
    show e_tv E_C (E_V 190) e_t190_0 [192, d, 0, 0, 0] M = _
    unfold e_t190_0
    simp [zq_a, zq_b, zq_c, zq_d, zq_e, zq_f, zq_g, zq_h, zq_i, zq_j, zq_k, zq_l, zq_m, zq_n, zq_o, zq_p, zq_q, zq_r, zq_s, zq_t, zq_u, zq_v, zq_w, zq_x, zq_y, zq_z, zq_A, zq_B, zq_C, zq_D, zq_E, zq_F, zq_G, zq_H, zq_I, zq_J, zq_K, zq_L, ↓zq_M, ↓zq_N, ↓zq_O, ↓zq_P, ↓zq_Q, ↓zq_R, zq_S, zq_T, zq_U, zq_V, zq_W, zq_X, zq_Y, zq_Z, zq_0, zq_1, zq_2, zq_3, zq_4, zq_5, ↓zq_6, ↓zq_7, ↓zq_8, ↓zq_9, ↓zq_aa, zq_ab, zq_ac, zq_ad, zq_ae, zq_af, zq_ag, ↓zq_ah, ↓zq_ai, ↓zq_aj, zq_ak, ↓zq_al, ↓zq_am, e_b1, e_b2, x_o1, x_o2, r_O4, r_P15, r_P16, r_P17, kn, w1, ls, e97, k]
  · refine r_Ts (r := n) hJ ?_
    rw [r_ent (show e_rok 190 [192, d] = true from decide_eq_true r_ref)]
    show e_tv E_C (E_V 190) e_t190_0 [192, d, 0, 0, 0] M = _
    unfold e_t190_0
    simp [zq_a, zq_b, zq_c, zq_d, zq_e, zq_f, zq_g, zq_h, zq_i, zq_j, zq_k, zq_l, zq_m, zq_n, zq_o, zq_p, zq_q, zq_r, zq_s, zq_t, zq_u, zq_v, zq_w, zq_x, zq_y, zq_z, zq_A, zq_B, zq_C, zq_D, zq_E, zq_F, zq_G, zq_H, zq_I, zq_J, zq_K, zq_L, ↓zq_M, ↓zq_N, ↓zq_O, ↓zq_P, ↓zq_Q, ↓zq_R, zq_S, zq_T, zq_U, zq_V, zq_W, zq_X, zq_Y, zq_Z, zq_0, zq_1, zq_2, zq_3, zq_4, zq_5, ↓zq_6, ↓zq_7, ↓zq_8, ↓zq_9, ↓zq_aa, zq_ab, zq_ac, zq_ad, zq_ae, zq_af, zq_ag, ↓zq_ah, ↓zq_ai, ↓zq_aj, zq_ak, ↓zq_al, ↓zq_am, e_b1, e_b2, x_o1, x_o2, kn, q]
end
section
/-! THE LAW'S LOOP: every call, of the class and of the reference, comes to an end -/
/-- what one call may change -/
def l_st (M M1 : EM) : Prop := r_J M1 ∧ (∀ k, M1 0 k = M 0 k) ∧ M1 5 1 = M 5 1 ∧ M 5 0 ≤ M1 5 0 ∧ M1 5 0 ≤ M 5 0 + 1
def l_s0 (M M1 : EM) : Prop := r_J M1 ∧ (∀ k, M1 0 k = M 0 k) ∧ M1 5 1 = M 5 1 ∧ M1 5 0 = M 5 0
theorem l_cl {M M1 : EM} {W : AW} (hJ : r_J M) (h3 : a_M M1) (h4 : a_fr W M M1) (hW : (W.all fun w => decide (8 ≤ w.1) && decide (w.1 < 192)) = true) : l_s0 M M1 := by
  have e : ∀ id k, id < 8 ∨ 192 ≤ id → M1 id k = M id k := fun id k h => h4 id k (fun w hw hc => by
    have := List.all_eq_true.mp hW w hw
    simp only [Bool.and_eq_true, decide_eq_true_eq] at this
    omega)
  obtain ⟨j1, j2, j3, j4, j5⟩ := hJ
  have e1 : r_G M1 = r_G M := funext fun i => e _ _ (by omega)
  have e2 : r_Gi M1 = r_Gi M := funext fun i => e _ _ (by omega)
  refine ⟨⟨h3, fun j hj => ?_, by rw [e1]; exact j3, ?_, ?_⟩, fun k => e _ _ (by omega), e _ _ (by omega), e _ _ (by omega)⟩
  · rw [e _ _ (by omega)]; exact j2 j hj
  · rw [e _ _ (by omega), e2]; exact j4
  · rw [e _ _ (by omega)]; exact j5
theorem l_rf {W : AW} {u : Nat} {as : List Int} {M : EM} (h : r_T W u as M) (hW : (W.all fun w => decide (192 ≤ w.1)) = true) : ∃ r M1, E_C u as M = some (r, M1) ∧ l_s0 M M1 := by
  obtain ⟨r, M1, k, j, f⟩ := h
  have e : ∀ id k, id < 192 → M1 id k = M id k := fun id k h => f id k (fun w hw hc => by
    have h2 : 192 ≤ w.1 := by
      rcases List.mem_append.mp hw with hw | hw
      · exact of_decide_eq_true (List.all_eq_true.mp hW w hw)
      · exact (show ∀ w ∈ r_wq, 192 ≤ w.1 by decide) w hw
    omega)
  exact ⟨r, M1, k, j, fun k => e _ _ (by decide), e _ _ (by decide), e _ _ (by decide)⟩
theorem l_out {W : AW} {rho : AV} {M : EM} {o : EO} (h : a_OUT W rho M o) (hJ : r_J M) (hW : (W.all fun w => decide (8 ≤ w.1) && decide (w.1 < 192)) = true) : ∃ r M1, o = some (r, M1) ∧ l_s0 M M1 := by
  obtain ⟨r, M1, k, -, h3, h4⟩ := h
  exact ⟨r, M1, k, l_cl hJ h3 h4 hW⟩
theorem l_up213 {M : EM} {v : Int} (hM : a_M M) (hv : -9223372036854775808 ≤ v ∧ v ≤ 9223372036854775807) : a_M (e_up M 213 0 v) := by
  intro b j hb
  by_cases hc : b = 213 ∧ j = 0
  · obtain ⟨rfl, rfl⟩ := hc
    rw [c_up_s]
    refine ⟨?_, ?_, fun s hs => ?_⟩
    · exact hv.1
    · exact hv.2
    · rw [show a_mi 213 = [] from by decide +kernel] at hs; cases hs
  · rw [c_up_n hc]; exact hM b j hb
theorem l_J213 {M : EM} {v : Int} (hJ : r_J M) (hv : -9223372036854775808 ≤ v ∧ v ≤ 9223372036854775807) : l_s0 M (e_up M 213 0 v) := by
  have e : ∀ id k, id ≠ 213 → (e_up M 213 0 v) id k = M id k := fun id k h => c_up_n (fun hc => h hc.1)
  obtain ⟨j1, j2, j3, j4, j5⟩ := hJ
  have e1 : r_G (e_up M 213 0 v) = r_G M := funext fun i => e _ _ (by decide)
  have e2 : r_Gi (e_up M 213 0 v) = r_Gi M := funext fun i => e _ _ (by decide)
  refine ⟨⟨l_up213 j1 hv, fun j hj => ?_, by rw [e1]; exact j3, ?_, ?_⟩, fun k => e _ _ (by decide), e _ _ (by decide), e _ _ (by decide)⟩
  · rw [e _ _ (by decide)]; exact j2 j hj
  · rw [e _ _ (by decide), e2]; exact j4
  · rw [e _ _ (by decide)]; exact j5
theorem l_thr {M : EM} (hJ : r_J M) : l_st M (c_thr M) := by
  have e : ∀ id k, id ≠ 5 → (c_thr M) id k = M id k := fun id k h => c_up_n (fun hc => h hc.1)
  have e5 : (c_thr M) 5 0 = M 5 0 + 1 := c_up_s
  obtain ⟨j1, j2, j3, j4, j5⟩ := hJ
  have e1 : r_G (c_thr M) = r_G M := funext fun i => e _ _ (by decide)
  have e2 : r_Gi (c_thr M) = r_Gi M := funext fun i => e _ _ (by decide)
  refine ⟨⟨fun id k h => by rw [e id k h]; exact j1 id k h, fun j hj => ?_, by rw [e1]; exact j3, ?_, ?_⟩, fun k => e _ _ (by decide), c_up_n (fun hc => absurd hc.2 (by decide)), by rw [e5]; omega, by rw [e5]; omega⟩
  · rw [e _ _ (by decide)]; exact j2 j hj
  · rw [e _ _ (by decide), e2]; exact j4
  · rw [e _ _ (by decide)]; exact j5
theorem l_s0_st {M M1 : EM} (h : l_s0 M M1) : l_st M M1 := ⟨h.1, h.2.1, h.2.2.1, by rw [h.2.2.2]; exact Int.le_refl _, by rw [h.2.2.2]; omega⟩
theorem l_st_s0 {M M1 M2 : EM} (h : l_st M M1) (k : l_s0 M1 M2) : l_st M M2 := ⟨k.1, fun j => (k.2.1 j).trans (h.2.1 j), k.2.2.1.trans h.2.2.1, by rw [k.2.2.2]; exact h.2.2.2.1, by rw [k.2.2.2]; exact h.2.2.2.2⟩
theorem l_32 {M : EM} (hJ : r_J M) (k : Nat) : -2147483648 ≤ M 0 k ∧ M 0 k ≤ 2147483647 := c_M32 hJ.1 (by decide) (by decide +kernel)
theorem l_rd {n j : Int} {M : EM} (hn : M 5 1 = n) (h0 : 0 ≤ j) (h1 : j < n) : e_op 60 [0, j] M = some (M 0 j.toNat) := by
  have hin : e_in2 M 100 0 j := by
    refine ⟨by decide, by decide +kernel, by decide +kernel, h0, ?_⟩
    unfold e_sz
    rw [if_pos (by decide), hn]
    omega
  simp only [e_op, if_pos]
  rw [if_pos hin]
  rfl
theorem l_len {n : Int} {M : EM} (hn : M 5 1 = n) (h0 : 0 ≤ n) : e_op 63 [0] M = some n := by
  simp only [e_op, if_pos]
  rw [if_pos (by decide +kernel)]
  unfold e_sz
  rw [if_pos (by decide), hn]
  exact congrArg some (by omega)
/-! the three that may throw, and where they are caught -/
def l_OUT (W : AW) (M : EM) (o : EO) : Prop := ∃ r M', o = some (r, M') ∧ (((-9223372036854775808 ≤ r ∧ r ≤ 9223372036854775807) ∧ a_M M' ∧ a_fr W M M') ∨ (r = e_TH ∧ M' = c_thr M))
theorem l_TH (r : Int) (h : -9223372036854775808 ≤ r ∧ r ≤ 9223372036854775807) : r ≠ e_TH ∧ r ≠ e_TH + 1 := by
  unfold e_TH
  omega
theorem l_T64 {r : Int} (h : a_g a_T64 r) : -9223372036854775808 ≤ r ∧ r ≤ 9223372036854775807 := ⟨h.1, h.2.1⟩
theorem l_cpush {p c : Int} {M : EM} (hM : a_M M) (hp : -2147483648 ≤ p ∧ p ≤ 2147483647) (hc : -2147483648 ≤ c ∧ c ≤ 2147483647) : l_OUT (a_w1 ++ a_w16) M (E_C 109 [8, p, c] M) := by
  obtain ⟨r, M', k, h⟩ := c_push hM hp hc
  rcases h with ⟨h1, h2, h3⟩ | ⟨h1, h2⟩
  · exact ⟨r, M', k, Or.inl ⟨l_T64 h1, h2, h3⟩⟩
  · rcases h1 with h1 | h1
    · exact ⟨r, M', k, Or.inr ⟨h1, h2⟩⟩
    · exfalso
      have e : E_C 109 [8, p, c] M = e_tv E_C (E_V 109) e_t109_0 [8, p, c] M := by
        unfold E_C
        rw [if_pos (show e_rok 109 [8, p, c] = true from decide_eq_true c_this), E_V_eq]
        rfl
      rw [e] at k
      unfold e_t109_0 at k
      obtain ⟨s, s1, s2, s3⟩ := c_isPart hM hp
      have key : ∀ M1, (e_tv E_C (E_V 109) (.mulL 3 (.num 0)) [8, p, c] M = some (r, M1)) → False := by
        intro M1 k
        simp [e_tv, e_ev] at k
        unfold e_TH at k h1
        omega
      by_cases q0 : s = 0
      · subst q0
        simp [e_tv, e_ev, e_op, e_b1, e_b2, s1] at k
        unfold e_TH at k h1
        omega
      · rcases x_le 0 c with ⟨q1, q1_n⟩ | ⟨q1, q1_n⟩
        · rcases x_lt 999 c with ⟨q2, q2_n⟩ | ⟨q2, q2_n⟩
          · simp [e_tv, e_ev, e_op, e_b1, e_b2, s1, q0, q1, q1_n, q1_n, q2, q2_n, q2_n] at k
            unfold e_TH at k h1
            omega
          · obtain ⟨s', M2, t1, -, t3, t4⟩ := a_entry a_c1 (as := [170, p]) (M := M) ⟨List.mem_cons_self, a_gi hp.1 hp.2, trivial⟩ hM
            obtain ⟨t, M3, u1, u2, u3, u4⟩ := a_entry a_c16 (as := [170, c]) (M := M2) ⟨List.mem_cons_self, a_gi hc.1 hc.2, trivial⟩ t3
            have hr : a_rho 16 = a_i (-2147483648) 2147483647 := by rfl
            rw [hr] at u2
            have u5 : (-2147483648 : Int) ≤ t := u2.1
            have u6 : t ≤ 2147483647 := u2.2.1
            simp [e_tv, e_ev, e_sv, e_op, e_b1, e_b2, s1, q0, q1, q1_n, q1_n, q2, q2_n, q2_n, c_bench, t1, u1] at k
            unfold e_TH at h1
            omega
        · simp [e_tv, e_ev, e_op, e_b1, e_b2, s1, q0, q1, q1_n, q1_n] at k
          unfold e_TH at k h1
          omega
end
section
theorem l_closs {p c al : Int} {M : EM} (hM : a_M M) (hp : -2147483648 ≤ p ∧ p ≤ 2147483647) (hc : -2147483648 ≤ c ∧ c ≤ 2147483647) : l_OUT a_w160 M (E_C 132 [8, p, c, al] M) := by
  have h1 : E_C 132 [8, p, c, al] M = e_tv E_C (E_V 132) e_t132_0 [8, p, c, al, 0, 0, 0, 0, 0, 0] M := by
    unfold E_C
    rw [if_pos (show e_rok 132 [8, p, c, al] = true from decide_eq_true c_this), E_V_eq]
    rfl
  rw [h1]
  unfold e_t132_0
  obtain ⟨r, r1, r2, r3⟩ := c_isPart hM hp
  by_cases q0 : r = 0
  · subst q0
    refine ⟨e_TH, c_thr M, ?_, Or.inr ⟨rfl, rfl⟩⟩
    simp [zq_a, zq_b, zq_c, zq_d, zq_e, zq_f, zq_g, zq_h, zq_i, zq_j, zq_k, zq_l, zq_m, zq_n, zq_o, zq_p, zq_q, zq_r, zq_s, zq_t, zq_u, zq_v, zq_w, zq_x, zq_y, zq_z, zq_A, zq_B, zq_C, zq_D, zq_E, zq_F, zq_G, zq_H, zq_I, zq_J, zq_K, zq_L, ↓zq_M, ↓zq_N, ↓zq_O, ↓zq_P, ↓zq_Q, ↓zq_R, zq_S, zq_T, zq_U, zq_V, zq_W, zq_X, zq_Y, zq_Z, zq_0, zq_1, zq_2, zq_3, zq_4, zq_5, ↓zq_6, ↓zq_7, ↓zq_8, ↓zq_9, ↓zq_aa, zq_ab, zq_ac, zq_ad, zq_ae, zq_af, zq_ag, ↓zq_ah, ↓zq_ai, ↓zq_aj, zq_ak, ↓zq_al, ↓zq_am, e_op, e_b1, e_b2, r1, c_thr]
  · rcases x_le 0 c with ⟨q1, q1_n⟩ | ⟨q1, q1_n⟩
    · rcases x_le 4 c with ⟨q2, q2_n⟩ | ⟨q2, q2_n⟩
      · refine ⟨e_TH, c_thr M, ?_, Or.inr ⟨rfl, rfl⟩⟩
        simp [zq_a, zq_b, zq_c, zq_d, zq_e, zq_f, zq_g, zq_h, zq_i, zq_j, zq_k, zq_l, zq_m, zq_n, zq_o, zq_p, zq_q, zq_r, zq_s, zq_t, zq_u, zq_v, zq_w, zq_x, zq_y, zq_z, zq_A, zq_B, zq_C, zq_D, zq_E, zq_F, zq_G, zq_H, zq_I, zq_J, zq_K, zq_L, ↓zq_M, ↓zq_N, ↓zq_O, ↓zq_P, ↓zq_Q, ↓zq_R, zq_S, zq_T, zq_U, zq_V, zq_W, zq_X, zq_Y, zq_Z, zq_0, zq_1, zq_2, zq_3, zq_4, zq_5, ↓zq_6, ↓zq_7, ↓zq_8, ↓zq_9, ↓zq_aa, zq_ab, zq_ac, zq_ad, zq_ae, zq_af, zq_ag, ↓zq_ah, ↓zq_ai, ↓zq_aj, zq_ak, ↓zq_al, ↓zq_am, e_op, e_b1, e_b2, r1, q0, q1, q1_n, q2, q2_n, c_thr]
      · generalize ho : e_bit (fun x y => x <<< (y &&& 31)) 1 c = own
        have hor : -2147483648 ≤ own ∧ own ≤ 2147483647 := by rw [← ho]; exact a_bit _ _ _
        by_cases q3 : al = 0
        · obtain ⟨b1, M1, g1, g2, g3⟩ := c_bw (x := e_w (e_w (2 * own) - 1)) hM hp (a_w _)
          obtain ⟨b2, M2, k1, k2, k3⟩ := c_bw (x := e_w (own - 1)) g2 hp (a_w _)
          refine ⟨e_W (b1 - b2), M2, ?_, Or.inl ⟨a_W' _, k2, a_fr_tr g3 k3⟩⟩
          simp [zq_a, zq_b, zq_c, zq_d, zq_e, zq_f, zq_g, zq_h, zq_i, zq_j, zq_k, zq_l, zq_m, zq_n, zq_o, zq_p, zq_q, zq_r, zq_s, zq_t, zq_u, zq_v, zq_w, zq_x, zq_y, zq_z, zq_A, zq_B, zq_C, zq_D, zq_E, zq_F, zq_G, zq_H, zq_I, zq_J, zq_K, zq_L, ↓zq_M, ↓zq_N, ↓zq_O, ↓zq_P, ↓zq_Q, ↓zq_R, zq_S, zq_T, zq_U, zq_V, zq_W, zq_X, zq_Y, zq_Z, zq_0, zq_1, zq_2, zq_3, zq_4, zq_5, ↓zq_6, ↓zq_7, ↓zq_8, ↓zq_9, ↓zq_aa, zq_ab, zq_ac, zq_ad, zq_ae, zq_af, zq_ag, ↓zq_ah, ↓zq_ai, ↓zq_aj, zq_ak, ↓zq_al, ↓zq_am, e_op, e_b1, e_b2, r1, q0, q1, q1_n, q2, q2_n, q3, ho, g1, k1]
        · obtain ⟨r', M', f1, f2, f3, f4⟩ := c_loss_loop (c := c) (al := al) (own := own) hp 16 0 0 0 0 0 M hM (by decide) (by decide) (by decide) (by decide)
          refine ⟨r', M', ?_, Or.inl ⟨l_T64 f2, f3, f4⟩⟩
          simp [zq_a, zq_b, zq_c, zq_d, zq_e, zq_f, zq_g, zq_h, zq_i, zq_j, zq_k, zq_l, zq_m, zq_n, zq_o, zq_p, zq_q, zq_r, zq_s, zq_t, zq_u, zq_v, zq_w, zq_x, zq_y, zq_z, zq_A, zq_B, zq_C, zq_D, zq_E, zq_F, zq_G, zq_H, zq_I, zq_J, zq_K, zq_L, ↓zq_M, ↓zq_N, ↓zq_O, ↓zq_P, ↓zq_Q, ↓zq_R, zq_S, zq_T, zq_U, zq_V, zq_W, zq_X, zq_Y, zq_Z, zq_0, zq_1, zq_2, zq_3, zq_4, zq_5, ↓zq_6, ↓zq_7, ↓zq_8, ↓zq_9, ↓zq_aa, zq_ab, zq_ac, zq_ad, zq_ae, zq_af, zq_ag, ↓zq_ah, ↓zq_ai, ↓zq_aj, zq_ak, ↓zq_al, ↓zq_am, e_op, e_b1, e_b2, r1, q0, q1, q1_n, q2, q2_n, q3, ho, f1]
    · refine ⟨e_TH, c_thr M, ?_, Or.inr ⟨rfl, rfl⟩⟩
      simp [zq_a, zq_b, zq_c, zq_d, zq_e, zq_f, zq_g, zq_h, zq_i, zq_j, zq_k, zq_l, zq_m, zq_n, zq_o, zq_p, zq_q, zq_r, zq_s, zq_t, zq_u, zq_v, zq_w, zq_x, zq_y, zq_z, zq_A, zq_B, zq_C, zq_D, zq_E, zq_F, zq_G, zq_H, zq_I, zq_J, zq_K, zq_L, ↓zq_M, ↓zq_N, ↓zq_O, ↓zq_P, ↓zq_Q, ↓zq_R, zq_S, zq_T, zq_U, zq_V, zq_W, zq_X, zq_Y, zq_Z, zq_0, zq_1, zq_2, zq_3, zq_4, zq_5, ↓zq_6, ↓zq_7, ↓zq_8, ↓zq_9, ↓zq_aa, zq_ab, zq_ac, zq_ad, zq_ae, zq_af, zq_ag, ↓zq_ah, ↓zq_ai, ↓zq_aj, zq_ak, ↓zq_al, ↓zq_am, e_op, e_b1, e_b2, r1, q0, q1, q1_n, c_thr]
theorem l_st213 {v : Int} {M : EM} : e_st 101 [213, 0, v] M = some (e_up M 213 0 v) := by
  have hz : e_sz M 213 = 1 := by
    unfold e_sz
    rw [if_neg (by decide)]
    decide +kernel
  have h : (8 : Int) ≤ 213 ∧ e_in2 M 101 213 0 := by
    refine ⟨by decide, by decide, by decide +kernel, by decide +kernel, by decide, ?_⟩
    show 0 < e_sz M 213
    rw [hz]
    decide
  show (if (8 : Int) ≤ 213 ∧ e_in2 M 101 213 0 then some (e_up M 213 0 v) else none) = _
  rw [if_pos h]
theorem l_ent {u : Nat} {as : List Int} {M : EM} (hr : e_rok u as = true) : E_C u as M = e_tv E_C (E_V u) (e_tr u 0) (e_pad u as) M := r_ent hr
theorem l_push {p c : Int} {M : EM} (hJ : r_J M) (hp : -2147483648 ≤ p ∧ p ≤ 2147483647) (hc : -2147483648 ≤ c ∧ c ≤ 2147483647) : ∃ r M1, E_C 271 [8, p, c, 213] M = some (r, M1) ∧ l_st M M1 := by
  obtain ⟨r, M', k, h⟩ := l_cpush hJ.1 hp hc
  have j16 : ∀ M1, E_V 271 16 [8, p, c, 213, 0] M1 = some (0, M1) := by
    intro M1
    rw [E_V_eq]
    show e_tv E_C (E_V 271) e_t271_16 [8, p, c, 213, 0] M1 = _
    unfold e_t271_16
    simp [zq_a, zq_b, zq_c, zq_d, zq_e, zq_f, zq_g, zq_h, zq_i, zq_j, zq_k, zq_l, zq_m, zq_n, zq_o, zq_p, zq_q, zq_r, zq_s, zq_t, zq_u, zq_v, zq_w, zq_x, zq_y, zq_z, zq_A, zq_B, zq_C, zq_D, zq_E, zq_F, zq_G, zq_H, zq_I, zq_J, zq_K, zq_L, ↓zq_M, ↓zq_N, ↓zq_O, ↓zq_P, ↓zq_Q, ↓zq_R, zq_S, zq_T, zq_U, zq_V, zq_W, zq_X, zq_Y, zq_Z, zq_0, zq_1, zq_2, zq_3, zq_4, zq_5, ↓zq_6, ↓zq_7, ↓zq_8, ↓zq_9, ↓zq_aa, zq_ab, zq_ac, zq_ad, zq_ae, zq_af, zq_ag, ↓zq_ah, ↓zq_ai, ↓zq_aj, zq_ak, ↓zq_al, ↓zq_am, e_b1, e_b2, x_o1, x_o2]
  rcases h with ⟨h1, h2, h3⟩ | ⟨h1, h2⟩
  · have n := l_TH r h1
    have s1 := l_cl hJ h2 h3 (by decide +kernel)
    have s2 := l_J213 s1.1 h1
    refine ⟨0, e_up M' 213 0 r, ?_, l_st_s0 (l_s0_st s1) s2⟩
    rw [l_ent (show e_rok 271 [8, p, c, 213] = true from rfl)]
    show e_tv E_C (E_V 271) e_t271_0 [8, p, c, 213, 0] M = _
    unfold e_t271_0
    simp [zq_a, zq_b, zq_c, zq_d, zq_e, zq_f, zq_g, zq_h, zq_i, zq_j, zq_k, zq_l, zq_m, zq_n, zq_o, zq_p, zq_q, zq_r, zq_s, zq_t, zq_u, zq_v, zq_w, zq_x, zq_y, zq_z, zq_A, zq_B, zq_C, zq_D, zq_E, zq_F, zq_G, zq_H, zq_I, zq_J, zq_K, zq_L, ↓zq_M, ↓zq_N, ↓zq_O, ↓zq_P, ↓zq_Q, ↓zq_R, zq_S, zq_T, zq_U, zq_V, zq_W, zq_X, zq_Y, zq_Z, zq_0, zq_1, zq_2, zq_3, zq_4, zq_5, ↓zq_6, ↓zq_7, ↓zq_8, ↓zq_9, ↓zq_aa, zq_ab, zq_ac, zq_ad, zq_ae, zq_af, zq_ag, ↓zq_ah, ↓zq_ai, ↓zq_aj, zq_ak, ↓zq_al, ↓zq_am, e_b1, e_b2, x_o1, x_o2, k, n.1, n.2, l_st213, j16]
  · subst h2
    refine ⟨1, c_thr M, ?_, l_thr hJ⟩
    rw [l_ent (show e_rok 271 [8, p, c, 213] = true from rfl)]
    show e_tv E_C (E_V 271) e_t271_0 [8, p, c, 213, 0] M = _
    unfold e_t271_0
    simp [zq_a, zq_b, zq_c, zq_d, zq_e, zq_f, zq_g, zq_h, zq_i, zq_j, zq_k, zq_l, zq_m, zq_n, zq_o, zq_p, zq_q, zq_r, zq_s, zq_t, zq_u, zq_v, zq_w, zq_x, zq_y, zq_z, zq_A, zq_B, zq_C, zq_D, zq_E, zq_F, zq_G, zq_H, zq_I, zq_J, zq_K, zq_L, ↓zq_M, ↓zq_N, ↓zq_O, ↓zq_P, ↓zq_Q, ↓zq_R, zq_S, zq_T, zq_U, zq_V, zq_W, zq_X, zq_Y, zq_Z, zq_0, zq_1, zq_2, zq_3, zq_4, zq_5, ↓zq_6, ↓zq_7, ↓zq_8, ↓zq_9, ↓zq_aa, zq_ab, zq_ac, zq_ad, zq_ae, zq_af, zq_ag, ↓zq_ah, ↓zq_ai, ↓zq_aj, zq_ak, ↓zq_al, ↓zq_am, e_b1, e_b2, x_o1, x_o2, k, h1]
theorem l_loss {p c al : Int} {M : EM} (hJ : r_J M) (hp : -2147483648 ≤ p ∧ p ≤ 2147483647) (hc : -2147483648 ≤ c ∧ c ≤ 2147483647) : ∃ r M1, E_C 272 [8, p, c, al, 213] M = some (r, M1) ∧ l_st M M1 := by
  obtain ⟨r, M', k, h⟩ := l_closs (al := al) hJ.1 hp hc
  have j16 : ∀ M1, E_V 272 18 [8, p, c, al, 213, 0] M1 = some (0, M1) := by
    intro M1
    rw [E_V_eq]
    show e_tv E_C (E_V 272) e_t272_18 [8, p, c, al, 213, 0] M1 = _
    unfold e_t272_18
    simp [zq_a, zq_b, zq_c, zq_d, zq_e, zq_f, zq_g, zq_h, zq_i, zq_j, zq_k, zq_l, zq_m, zq_n, zq_o, zq_p, zq_q, zq_r, zq_s, zq_t, zq_u, zq_v, zq_w, zq_x, zq_y, zq_z, zq_A, zq_B, zq_C, zq_D, zq_E, zq_F, zq_G, zq_H, zq_I, zq_J, zq_K, zq_L, ↓zq_M, ↓zq_N, ↓zq_O, ↓zq_P, ↓zq_Q, ↓zq_R, zq_S, zq_T, zq_U, zq_V, zq_W, zq_X, zq_Y, zq_Z, zq_0, zq_1, zq_2, zq_3, zq_4, zq_5, ↓zq_6, ↓zq_7, ↓zq_8, ↓zq_9, ↓zq_aa, zq_ab, zq_ac, zq_ad, zq_ae, zq_af, zq_ag, ↓zq_ah, ↓zq_ai, ↓zq_aj, zq_ak, ↓zq_al, ↓zq_am, e_b1, e_b2, x_o1, x_o2]
  rcases h with ⟨h1, h2, h3⟩ | ⟨h1, h2⟩
  · have n := l_TH r h1
    have s1 := l_cl hJ h2 h3 (by decide +kernel)
    have s2 := l_J213 s1.1 h1
    refine ⟨0, e_up M' 213 0 r, ?_, l_st_s0 (l_s0_st s1) s2⟩
    rw [l_ent (show e_rok 272 [8, p, c, al, 213] = true from rfl)]
    show e_tv E_C (E_V 272) e_t272_0 [8, p, c, al, 213, 0] M = _
    unfold e_t272_0
    simp [zq_a, zq_b, zq_c, zq_d, zq_e, zq_f, zq_g, zq_h, zq_i, zq_j, zq_k, zq_l, zq_m, zq_n, zq_o, zq_p, zq_q, zq_r, zq_s, zq_t, zq_u, zq_v, zq_w, zq_x, zq_y, zq_z, zq_A, zq_B, zq_C, zq_D, zq_E, zq_F, zq_G, zq_H, zq_I, zq_J, zq_K, zq_L, ↓zq_M, ↓zq_N, ↓zq_O, ↓zq_P, ↓zq_Q, ↓zq_R, zq_S, zq_T, zq_U, zq_V, zq_W, zq_X, zq_Y, zq_Z, zq_0, zq_1, zq_2, zq_3, zq_4, zq_5, ↓zq_6, ↓zq_7, ↓zq_8, ↓zq_9, ↓zq_aa, zq_ab, zq_ac, zq_ad, zq_ae, zq_af, zq_ag, ↓zq_ah, ↓zq_ai, ↓zq_aj, zq_ak, ↓zq_al, ↓zq_am, e_b1, e_b2, x_o1, x_o2, k, n.1, n.2, l_st213, j16]
  · subst h2
    refine ⟨1, c_thr M, ?_, l_thr hJ⟩
    rw [l_ent (show e_rok 272 [8, p, c, al, 213] = true from rfl)]
    show e_tv E_C (E_V 272) e_t272_0 [8, p, c, al, 213, 0] M = _
    unfold e_t272_0
    simp [zq_a, zq_b, zq_c, zq_d, zq_e, zq_f, zq_g, zq_h, zq_i, zq_j, zq_k, zq_l, zq_m, zq_n, zq_o, zq_p, zq_q, zq_r, zq_s, zq_t, zq_u, zq_v, zq_w, zq_x, zq_y, zq_z, zq_A, zq_B, zq_C, zq_D, zq_E, zq_F, zq_G, zq_H, zq_I, zq_J, zq_K, zq_L, ↓zq_M, ↓zq_N, ↓zq_O, ↓zq_P, ↓zq_Q, ↓zq_R, zq_S, zq_T, zq_U, zq_V, zq_W, zq_X, zq_Y, zq_Z, zq_0, zq_1, zq_2, zq_3, zq_4, zq_5, ↓zq_6, ↓zq_7, ↓zq_8, ↓zq_9, ↓zq_aa, zq_ab, zq_ac, zq_ad, zq_ae, zq_af, zq_ag, ↓zq_ah, ↓zq_ai, ↓zq_aj, zq_ak, ↓zq_al, ↓zq_am, e_b1, e_b2, x_o1, x_o2, k, h1]
theorem l_element {d i : Int} {M : EM} (hJ : r_J M) (hd : -2147483648 ≤ d ∧ d ≤ 2147483647) (hi : -2147483648 ≤ i ∧ i ≤ 2147483647) : ∃ r M1, E_C 273 [8, d, i, 213] M = some (r, M1) ∧ l_st M M1 := by
  obtain ⟨r, M', k, h⟩ := c_element hJ.1 hd hi
  have j16 : ∀ M1, E_V 273 20 [8, d, i, 213, 0] M1 = some (0, M1) := by
    intro M1
    rw [E_V_eq]
    show e_tv E_C (E_V 273) e_t273_20 [8, d, i, 213, 0] M1 = _
    unfold e_t273_20
    simp [zq_a, zq_b, zq_c, zq_d, zq_e, zq_f, zq_g, zq_h, zq_i, zq_j, zq_k, zq_l, zq_m, zq_n, zq_o, zq_p, zq_q, zq_r, zq_s, zq_t, zq_u, zq_v, zq_w, zq_x, zq_y, zq_z, zq_A, zq_B, zq_C, zq_D, zq_E, zq_F, zq_G, zq_H, zq_I, zq_J, zq_K, zq_L, ↓zq_M, ↓zq_N, ↓zq_O, ↓zq_P, ↓zq_Q, ↓zq_R, zq_S, zq_T, zq_U, zq_V, zq_W, zq_X, zq_Y, zq_Z, zq_0, zq_1, zq_2, zq_3, zq_4, zq_5, ↓zq_6, ↓zq_7, ↓zq_8, ↓zq_9, ↓zq_aa, zq_ab, zq_ac, zq_ad, zq_ae, zq_af, zq_ag, ↓zq_ah, ↓zq_ai, ↓zq_aj, zq_ak, ↓zq_al, ↓zq_am, e_b1, e_b2, x_o1, x_o2]
  have e10 : ¬ (e_TH + 1 = e_TH) := by unfold e_TH; decide
  rcases h with ⟨h1, h2, h3⟩ | ⟨h1, h2⟩
  · have h1' := l_T64 h1
    have n := l_TH r h1'
    have s1 := l_cl hJ h2 h3 (by decide +kernel)
    have s2 := l_J213 s1.1 h1'
    refine ⟨0, e_up M' 213 0 r, ?_, l_st_s0 (l_s0_st s1) s2⟩
    rw [l_ent (show e_rok 273 [8, d, i, 213] = true from rfl)]
    show e_tv E_C (E_V 273) e_t273_0 [8, d, i, 213, 0] M = _
    unfold e_t273_0
    simp [zq_a, zq_b, zq_c, zq_d, zq_e, zq_f, zq_g, zq_h, zq_i, zq_j, zq_k, zq_l, zq_m, zq_n, zq_o, zq_p, zq_q, zq_r, zq_s, zq_t, zq_u, zq_v, zq_w, zq_x, zq_y, zq_z, zq_A, zq_B, zq_C, zq_D, zq_E, zq_F, zq_G, zq_H, zq_I, zq_J, zq_K, zq_L, ↓zq_M, ↓zq_N, ↓zq_O, ↓zq_P, ↓zq_Q, ↓zq_R, zq_S, zq_T, zq_U, zq_V, zq_W, zq_X, zq_Y, zq_Z, zq_0, zq_1, zq_2, zq_3, zq_4, zq_5, ↓zq_6, ↓zq_7, ↓zq_8, ↓zq_9, ↓zq_aa, zq_ab, zq_ac, zq_ad, zq_ae, zq_af, zq_ag, ↓zq_ah, ↓zq_ai, ↓zq_aj, zq_ak, ↓zq_al, ↓zq_am, e_b1, e_b2, x_o1, x_o2, k, n.1, n.2, l_st213, j16]
  · subst h2
    rcases h1 with h1 | h1
    · refine ⟨1, c_thr M, ?_, l_thr hJ⟩
      rw [l_ent (show e_rok 273 [8, d, i, 213] = true from rfl)]
      show e_tv E_C (E_V 273) e_t273_0 [8, d, i, 213, 0] M = _
      unfold e_t273_0
      simp [zq_a, zq_b, zq_c, zq_d, zq_e, zq_f, zq_g, zq_h, zq_i, zq_j, zq_k, zq_l, zq_m, zq_n, zq_o, zq_p, zq_q, zq_r, zq_s, zq_t, zq_u, zq_v, zq_w, zq_x, zq_y, zq_z, zq_A, zq_B, zq_C, zq_D, zq_E, zq_F, zq_G, zq_H, zq_I, zq_J, zq_K, zq_L, ↓zq_M, ↓zq_N, ↓zq_O, ↓zq_P, ↓zq_Q, ↓zq_R, zq_S, zq_T, zq_U, zq_V, zq_W, zq_X, zq_Y, zq_Z, zq_0, zq_1, zq_2, zq_3, zq_4, zq_5, ↓zq_6, ↓zq_7, ↓zq_8, ↓zq_9, ↓zq_aa, zq_ab, zq_ac, zq_ad, zq_ae, zq_af, zq_ag, ↓zq_ah, ↓zq_ai, ↓zq_aj, zq_ak, ↓zq_al, ↓zq_am, e_b1, e_b2, x_o1, x_o2, k, h1]
    · refine ⟨2, c_thr M, ?_, l_thr hJ⟩
      rw [l_ent (show e_rok 273 [8, d, i, 213] = true from rfl)]
      show e_tv E_C (E_V 273) e_t273_0 [8, d, i, 213, 0] M = _
      unfold e_t273_0
      simp [zq_a, zq_b, zq_c, zq_d, zq_e, zq_f, zq_g, zq_h, zq_i, zq_j, zq_k, zq_l, zq_m, zq_n, zq_o, zq_p, zq_q, zq_r, zq_s, zq_t, zq_u, zq_v, zq_w, zq_x, zq_y, zq_z, zq_A, zq_B, zq_C, zq_D, zq_E, zq_F, zq_G, zq_H, zq_I, zq_J, zq_K, zq_L, ↓zq_M, ↓zq_N, ↓zq_O, ↓zq_P, ↓zq_Q, ↓zq_R, zq_S, zq_T, zq_U, zq_V, zq_W, zq_X, zq_Y, zq_Z, zq_0, zq_1, zq_2, zq_3, zq_4, zq_5, ↓zq_6, ↓zq_7, ↓zq_8, ↓zq_9, ↓zq_aa, zq_ab, zq_ac, zq_ad, zq_ae, zq_af, zq_ag, ↓zq_ah, ↓zq_ai, ↓zq_aj, zq_ak, ↓zq_al, ↓zq_am, e_b1, e_b2, x_o1, x_o2, k, h1, e10]
end
