section
/-! the reference reads a TEXT's shape: exactly -/
def y_s (b : Nat → Int) (n k : Nat) : Int := if k < n then b k else -1000
/-- the row that is read, and where the reference stands in it -/
def y_B (b : Nat → Int) (n k : Nat) (M : EM) : Prop := a_M M ∧ M 192 15 = k ∧ k ≤ n ∧ M 192 17 = n ∧ n ≤ 120 ∧ 0 ≤ M 192 16 ∧ M 192 16 ≤ 840 ∧ ∀ i, i < n → M 198 ((M 192 16).toNat + i) = b i
section YB
variable {b : Nat → Int} {n k k' : Nat} {M M' : EM}
theorem y_ty (h : y_B b n k M) : r_ty M := by
  obtain ⟨h1, h2, h3, h4, h5, h6, h7, h8⟩ := h
  exact ⟨h1, by omega, by omega, h6, h7, by omega⟩
theorem y_Bt (h : y_B b n k M) (t : r_tt M M') (e : M' 192 15 = k') (hk : k' ≤ n) : y_B b n k' M' := by
  obtain ⟨h1, h2, h3, h4, h5, h6, h7, h8⟩ := h
  obtain ⟨t1, t2, t3, t4, t5⟩ := t
  have e6 := t2 192 16 (by omega)
  have e7 := t2 192 17 (by omega)
  refine ⟨t1, e, hk, e7.trans h4, h5, by rw [e6]; exact h6, by rw [e6]; exact h7, fun i hi => ?_⟩
  rw [e6, t2 _ _ (by omega)]
  exact h8 i hi
theorem y_sg (h : y_B b n k M) : r_sg M = y_s b n k := by
  obtain ⟨h1, h2, h3, h4, h5, h6, h7, h8⟩ := h
  unfold r_sg y_s
  by_cases c : n > k
  · rw [if_pos (by omega), if_pos c, h2]
    have e : (M 192 16 + (k : Int)).toNat = (M 192 16).toNat + k := by omega
    rw [e]
    exact h8 k c
  · rw [if_neg (by omega), if_neg (by omega)]
theorem y_lt {c : Int} (h : y_s b n k = c) (hc : c ≠ -1000) : k < n ∧ b k = c := by
  unfold y_s at h
  by_cases q : n > k
  · rw [if_pos q] at h
    exact ⟨q, h⟩
  · rw [if_neg q] at h
    exact absurd h.symm hc
theorem y_sb (h : k < n) : y_s b n k = b k := if_pos h
theorem y_sn : y_s b n n = -1000 := if_neg (Nat.lt_irrefl _)
theorem y_on (h : y_B b n k M) (hk : k < n) : r_tt M (e_up M 192 15 ((k : Int) + 1)) ∧ y_B b n (k + 1) (e_up M 192 15 ((k : Int) + 1)) := by
  have H := h
  obtain ⟨h1, h2, h3, h4, h5, h6, h7, h8⟩ := H
  have t := r_tt_on (y_ty h) (by omega)
  rw [h2] at t
  exact ⟨t, y_Bt h t (by rw [c_up_s]; omega) (by omega)⟩
theorem y_takes {c : Int} (h : y_B b n k M) (hc : c ≠ -1000) : (y_s b n k = c → E_C 178 [192, c] M = some (1, e_up M 192 15 ((k : Int) + 1)) ∧ k < n ∧ b k = c ∧ r_tt M (e_up M 192 15 ((k : Int) + 1)) ∧ y_B b n (k + 1) (e_up M 192 15 ((k : Int) + 1))) ∧ (y_s b n k ≠ c → E_C 178 [192, c] M = some (0, M)) := by
  have e := y_sg h
  have h2 := h.2.1
  rcases r_takes (y_ty h) hc with ⟨q, k1, t1, l1⟩ | ⟨q, k1⟩
  · rw [e] at q
    rw [h2] at k1
    obtain ⟨z1, z2⟩ := y_lt q hc
    obtain ⟨o1, o2⟩ := y_on h z1
    exact ⟨fun _ => ⟨k1, z1, z2, o1, o2⟩, fun hn => absurd q hn⟩
  · rw [e] at q
    exact ⟨fun hn => absurd hn q, fun _ => k1⟩
/-- behind a number: no further digit may come -/
def y_rd (b : Nat → Int) (n k : Nat) : Prop := w_T b k 2 ≠ 0 ∧ w_T b k 2 ≠ 1 ∧ ¬ (w_T b k 2 = 2 ∧ k < n ∧ 48 ≤ b k ∧ b k ≤ 57)
def y_bad (b : Nat → Int) (n k : Nat) : Prop := w_A b k ∧ k ≤ n ∧ (k < n → ¬ w_ok (w_T b k) (b k)) ∧ (k = n → w_T b n 2 ≠ 0)
/-- a number was read from k on -/
def y_nm (b : Nat → Int) (n k k' : Nat) : Prop := k < k' ∧ k' ≤ n ∧ w_N b k ∧ w_A b k' ∧ y_rd b n k' ∧ w_T b k' 3 = w_T b k 3 ∧ w_T b k' 4 = w_T b k 4 ∧ w_T b k' 5 = w_T b k 5 ∧ w_T b k' 6 = w_T b k 6 ∧ w_T b k' 7 = w_T b k 7 ∧ w_T b k' 8 = w_T b k 8 + 1
theorem y_st1 (hA : w_A b k) (hk : k < n) (h2 : w_T b k 2 = 1) (hd : 48 ≤ b k ∧ b k ≤ 57) : w_A b (k + 1) ∧ w_T b (k + 1) 2 = (if b k = 48 then 3 else 2) ∧ w_T b (k + 1) 3 = w_T b k 3 ∧ w_T b (k + 1) 4 = w_T b k 4 ∧ w_T b (k + 1) 5 = w_T b k 5 ∧ w_T b (k + 1) 6 = w_T b k 6 ∧ w_T b (k + 1) 7 = w_T b k 7 ∧ w_T b (k + 1) 8 = w_T b k 8 + 1 := by
  have ok : w_ok (w_T b k) (b k) := by
    unfold w_ok
    rw [if_neg (by omega), if_pos h2]
    exact Or.inl hd
  refine ⟨w_As hA ok, ?_, ?_, ?_, ?_, ?_, ?_, ?_⟩
  · rw [w_Tn, w_nx2, if_neg (by omega), if_pos h2, if_pos hd]
  · rw [w_Tn, w_nx3, if_neg (by omega)]
  · rw [w_Tn, w_nx4, if_neg (by omega), if_pos h2]
  · rw [w_Tn, w_nx5, if_neg (by omega), if_pos h2, if_pos hd]
  · rw [w_Tn, w_nx6, if_neg (by omega), if_pos h2]
  · rw [w_Tn, w_nx7 ok, if_neg (by omega)]
  · rw [w_Tn, w_nx8, if_pos ⟨h2, hd⟩]
theorem y_st2 (hA : w_A b k) (h2 : w_T b k 2 = 2) (hd : 48 ≤ b k ∧ b k ≤ 57) : w_A b (k + 1) ∧ w_T b (k + 1) 2 = 3 ∧ w_T b (k + 1) 3 = w_T b k 3 ∧ w_T b (k + 1) 4 = w_T b k 4 ∧ w_T b (k + 1) 5 = w_T b k 5 ∧ w_T b (k + 1) 6 = w_T b k 6 ∧ w_T b (k + 1) 7 = w_T b k 7 ∧ w_T b (k + 1) 8 = w_T b k 8 := by
  have ok : w_ok (w_T b k) (b k) := by
    unfold w_ok
    rw [if_neg (by omega), if_neg (by omega)]
    exact Or.inl ⟨h2, hd⟩
  refine ⟨w_As hA ok, ?_, ?_, ?_, ?_, ?_, ?_, ?_⟩
  · rw [w_Tn, w_nx2, if_neg (by omega), if_neg (by omega), if_pos ⟨h2, hd⟩]
  · rw [w_Tn, w_nx3, if_neg (by omega)]
  · rw [w_Tn, w_nx4, if_neg (by omega), if_neg (by omega), if_pos ⟨h2, hd⟩]
  · rw [w_Tn, w_nx5, if_neg (by omega), if_neg (by omega), if_pos ⟨h2, hd⟩]
  · rw [w_Tn, w_nx6, if_neg (by omega), if_neg (by omega), if_pos ⟨h2, hd⟩]
  · rw [w_Tn, w_nx7 ok, if_neg (by omega)]
  · rw [w_Tn, w_nx8, if_neg (by omega)]
theorem y_num (h : y_B b n k M) (hA : w_A b k) (h2 : w_T b k 2 = 1) : (¬ (k < n ∧ 48 ≤ b k ∧ b k ≤ 57) → E_C 179 [192] M = some (0, M)) ∧ (k < n ∧ 48 ≤ b k ∧ b k ≤ 57 → ∃ k' M', E_C 179 [192] M = some (1, M') ∧ r_tt M M' ∧ y_B b n k' M' ∧ y_nm b n k k' ∧ M' 192 18 = w_v b n k) := by
  have ks := r_sign (y_ty h)
  rw [y_sg h] at ks
  refine ⟨fun q => ?_, fun q => ?_⟩
  · have q' : ¬ (48 ≤ y_s b n k ∧ y_s b n k ≤ 57) := fun e => by
      obtain ⟨z1, z2⟩ := y_lt (b := b) (n := n) (k := k) rfl (by omega)
      rw [← z2] at e
      exact q ⟨z1, e⟩
    have i1 := r_in0 (M := M) q'
    rw [r_ent (show e_rok 179 [192] = true from decide_eq_true r_ref)]
    show e_tv E_C (E_V 179) e_t179_0 [192] M = _
    unfold e_t179_0
    simp [zq_a, zq_b, zq_c, zq_d, zq_e, zq_f, zq_g, zq_h, zq_i, zq_j, zq_k, zq_l, zq_m, zq_n, zq_o, zq_p, zq_q, zq_r, zq_s, zq_t, zq_u, zq_v, zq_w, zq_x, zq_y, zq_z, zq_A, zq_B, zq_C, zq_D, zq_E, zq_F, zq_G, zq_H, zq_I, zq_J, zq_K, zq_L, ↓zq_M, ↓zq_N, ↓zq_O, ↓zq_P, ↓zq_Q, ↓zq_R, zq_S, zq_T, zq_U, zq_V, zq_W, zq_X, zq_Y, zq_Z, zq_0, zq_1, zq_2, zq_3, zq_4, zq_5, ↓zq_6, ↓zq_7, ↓zq_8, ↓zq_9, ↓zq_aa, zq_ab, zq_ac, zq_ad, zq_ae, zq_af, zq_ag, ↓zq_ah, ↓zq_ai, ↓zq_aj, zq_ak, ↓zq_al, ↓zq_am, e_b1, e_b2, x_o1, x_o2, ks, i1]
  · obtain ⟨q0, q1⟩ := q
    rw [y_sb q0] at ks
    have i1 := r_in1 (M := M) q1
    obtain ⟨a1, a2, a3, a4, a5, a6, a7, a8⟩ := y_st1 hA q0 h2 q1
    have H := h
    obtain ⟨h1, h15, h3, h4, h5, h6, h7, h8⟩ := H
    obtain ⟨n1, n2⟩ := r_tt_nm (v := b k - 48) (y_ty h) ⟨by omega, by omega⟩
    have B1 : y_B b n k (e_up M 192 18 (b k - 48)) := y_Bt h n1 (by rw [r_ff (by decide)]; exact h15) h3
    obtain ⟨o1, o2⟩ := y_on B1 q0
    have w1 : e_w ((k : Int) + 1) = (k : Int) + 1 := by
      clear ks i1 n1 n2 B1 o1 o2
      exact a_w_id (by omega) (by omega)
    have w2 : e_w (b k - 48) = b k - 48 := by
      clear ks i1 n1 n2 B1 o1 o2 w1
      exact a_w_id (by omega) (by omega)
    have t12 := r_tt_tr n1 o1
    have m18 : (e_up (e_up M 192 18 (b k - 48)) 192 15 ((k : Int) + 1)) 192 18 = b k - 48 := (r_ff (by decide)).trans c_up_s
    have ks2 := r_sign (y_ty o2)
    rw [y_sg o2] at ks2
    have p2 := o2.2.1
    generalize hM2 : e_up (e_up M 192 18 (b k - 48)) 192 15 ((k : Int) + 1) = M2 at *
    by_cases c1 : b k = 48
    · refine ⟨k + 1, M2, ?_, t12, o2, ⟨Nat.lt_succ_self k, q0, ⟨h2, q1⟩, a1, ⟨?_, ?_, ?_⟩, a3, a4, a5, a6, a7, a8⟩, ?_⟩
      · have c2 : ¬ (48 < b k) := by
          clear ks i1 w1 w2 ks2
          omega
        rw [r_ent (show e_rok 179 [192] = true from decide_eq_true r_ref)]
        show e_tv E_C (E_V 179) e_t179_0 [192] M = _
        unfold e_t179_0
        simp [zq_a, zq_b, zq_c, zq_d, zq_e, zq_f, zq_g, zq_h, zq_i, zq_j, zq_k, zq_l, zq_m, zq_n, zq_o, zq_p, zq_q, zq_r, zq_s, zq_t, zq_u, zq_v, zq_w, zq_x, zq_y, zq_z, zq_A, zq_B, zq_C, zq_D, zq_E, zq_F, zq_G, zq_H, zq_I, zq_J, zq_K, zq_L, ↓zq_M, ↓zq_N, ↓zq_O, ↓zq_P, ↓zq_Q, ↓zq_R, zq_S, zq_T, zq_U, zq_V, zq_W, zq_X, zq_Y, zq_Z, zq_0, zq_1, zq_2, zq_3, zq_4, zq_5, ↓zq_6, ↓zq_7, ↓zq_8, ↓zq_9, ↓zq_aa, zq_ab, zq_ac, zq_ad, zq_ae, zq_af, zq_ag, ↓zq_ah, ↓zq_ai, ↓zq_aj, zq_ak, ↓zq_al, ↓zq_am, e_b1, e_b2, x_o1, x_o2, r_F15, r_F18, r_P15, r_P18, r_ff, ks, i1, w1, w2, h15, hM2, m18, c2]
      · rw [a2, if_pos c1]; decide
      · rw [a2, if_pos c1]; decide
      · rw [a2, if_pos c1]; exact fun e => absurd e.1 (by decide)
      · rw [m18]
        unfold w_v
        rw [if_neg (fun e => e.1 c1)]
    · have c2 : 48 < b k := by
        clear ks i1 w1 w2 ks2
        omega
      rw [if_neg c1] at a2
      by_cases d : k + 1 < n ∧ 48 ≤ b (k + 1) ∧ b (k + 1) ≤ 57
      · obtain ⟨d0, d1⟩ := d
        rw [y_sb d0] at ks2
        have i2 := r_in1 (M := M2) d1
        obtain ⟨e1, e2, e3, e4, e5, e6, e7, e8⟩ := y_st2 a1 a2 d1
        obtain ⟨u1, u2⟩ := r_tt_nm (v := 10 * (b k - 48) + b (k + 1) - 48) (y_ty o2) ⟨by clear ks i1 w1 w2 ks2 i2; omega, by clear ks i1 w1 w2 ks2 i2; omega⟩
        have B3 : y_B b n (k + 1) (e_up M2 192 18 (10 * (b k - 48) + b (k + 1) - 48)) := y_Bt o2 u1 (by rw [r_ff (by decide)]; exact p2) (by clear ks i1 w1 w2 ks2 i2; omega)
        obtain ⟨v1, v2⟩ := y_on B3 d0
        have w3 : e_w (10 * (b k - 48)) = 10 * (b k - 48) := by
          clear ks i1 w1 w2 ks2 i2
          exact a_w_id (by omega) (by omega)
        have w4 : e_w (10 * (b k - 48) + b (k + 1)) = 10 * (b k - 48) + b (k + 1) := by
          clear ks i1 w1 w2 w3 ks2 i2
          exact a_w_id (by omega) (by omega)
        have w5 : e_w (10 * (b k - 48) + b (k + 1) - 48) = 10 * (b k - 48) + b (k + 1) - 48 := by
          clear ks i1 w1 w2 w3 w4 ks2 i2
          exact a_w_id (by omega) (by omega)
        have w6 : e_w (((k + 1 : Nat) : Int) + 1) = ((k + 1 : Nat) : Int) + 1 := by
          clear ks i1 w1 w2 w3 w4 w5 ks2 i2
          exact a_w_id (by omega) (by omega)
        have f15 : ∀ v, (e_up M2 192 18 v) 192 15 = ((k + 1 : Nat) : Int) := fun v => (r_ff (by decide)).trans p2
        refine ⟨k + 1 + 1, _, ?_, r_tt_tr t12 (r_tt_tr u1 v1), v2, ⟨Nat.lt_succ_of_lt (Nat.lt_succ_self k), d0, ⟨h2, q1⟩, e1, ⟨by rw [e2]; decide, by rw [e2]; decide, by rw [e2]; exact fun e => absurd e.1 (by decide)⟩, e3.trans a3, e4.trans a4, e5.trans a5, e6.trans a6, e7.trans a7, e8.trans a8⟩, ?_⟩
        · generalize ((k + 1 : Nat) : Int) = y at f15 w6 p2 ⊢
          rw [r_ent (show e_rok 179 [192] = true from decide_eq_true r_ref)]
          show e_tv E_C (E_V 179) e_t179_0 [192] M = _
          unfold e_t179_0
          simp [zq_a, zq_b, zq_c, zq_d, zq_e, zq_f, zq_g, zq_h, zq_i, zq_j, zq_k, zq_l, zq_m, zq_n, zq_o, zq_p, zq_q, zq_r, zq_s, zq_t, zq_u, zq_v, zq_w, zq_x, zq_y, zq_z, zq_A, zq_B, zq_C, zq_D, zq_E, zq_F, zq_G, zq_H, zq_I, zq_J, zq_K, zq_L, ↓zq_M, ↓zq_N, ↓zq_O, ↓zq_P, ↓zq_Q, ↓zq_R, zq_S, zq_T, zq_U, zq_V, zq_W, zq_X, zq_Y, zq_Z, zq_0, zq_1, zq_2, zq_3, zq_4, zq_5, ↓zq_6, ↓zq_7, ↓zq_8, ↓zq_9, ↓zq_aa, zq_ab, zq_ac, zq_ad, zq_ae, zq_af, zq_ag, ↓zq_ah, ↓zq_ai, ↓zq_aj, zq_ak, ↓zq_al, ↓zq_am, e_b1, e_b2, x_o1, x_o2, r_F15, r_F18, r_P15, r_P18, r_ff, ks, i1, w1, w2, h15, hM2, p2, m18, c2, ks2, i2, w3, w4, w5, w6, f15]
        · rw [r_ff (by decide), c_up_s]
          unfold w_v
          rw [if_pos ⟨c1, d0, d1⟩]
      · have i2 : E_C 168 [y_s b n (k + 1), 48, 57] M2 = some (0, M2) := r_in0 (M := M2) (fun e => by
          clear ks i1 w1 w2 ks2
          obtain ⟨z1, z2⟩ := y_lt (b := b) (n := n) (k := k + 1) rfl (by omega)
          rw [← z2] at e
          exact d ⟨z1, e⟩)
        refine ⟨k + 1, M2, ?_, t12, o2, ⟨Nat.lt_succ_self k, q0, ⟨h2, q1⟩, a1, ⟨?_, ?_, ?_⟩, a3, a4, a5, a6, a7, a8⟩, ?_⟩
        · rw [r_ent (show e_rok 179 [192] = true from decide_eq_true r_ref)]
          show e_tv E_C (E_V 179) e_t179_0 [192] M = _
          unfold e_t179_0
          simp [zq_a, zq_b, zq_c, zq_d, zq_e, zq_f, zq_g, zq_h, zq_i, zq_j, zq_k, zq_l, zq_m, zq_n, zq_o, zq_p, zq_q, zq_r, zq_s, zq_t, zq_u, zq_v, zq_w, zq_x, zq_y, zq_z, zq_A, zq_B, zq_C, zq_D, zq_E, zq_F, zq_G, zq_H, zq_I, zq_J, zq_K, zq_L, ↓zq_M, ↓zq_N, ↓zq_O, ↓zq_P, ↓zq_Q, ↓zq_R, zq_S, zq_T, zq_U, zq_V, zq_W, zq_X, zq_Y, zq_Z, zq_0, zq_1, zq_2, zq_3, zq_4, zq_5, ↓zq_6, ↓zq_7, ↓zq_8, ↓zq_9, ↓zq_aa, zq_ab, zq_ac, zq_ad, zq_ae, zq_af, zq_ag, ↓zq_ah, ↓zq_ai, ↓zq_aj, zq_ak, ↓zq_al, ↓zq_am, e_b1, e_b2, x_o1, x_o2, r_F15, r_F18, r_P15, r_P18, r_ff, ks, i1, w1, w2, h15, hM2, m18, c2, ks2, i2]
        · rw [a2]; decide
        · rw [a2]; decide
        · rw [a2]; exact fun e => d e.2
        · rw [m18]
          unfold w_v
          rw [if_neg (fun e => d e.2)]
end YB
end
section
/-! the reference reads a STATEMENT: exactly -/
section YL
variable {b : Nat → Int} {n k k' : Nat} {M M' : EM}
theorem y_okr (rd : y_rd b n k) (hk : k < n) : w_ok (w_T b k) (b k) ↔ ((b k = 47 ∧ w_T b k 3 = 99 ∧ w_T b k 4 = 0) ∨ (b k = 93 ∧ w_T b k 5 ≠ 0) ∨ (b k = 32 ∧ w_T b k 3 ≠ 98 ∧ ¬ (w_T b k 3 = 99 ∧ w_T b k 4 = 0)) ∨ (b k = 59 ∧ w_T b k 5 = 0 ∧ ¬ (w_T b k 3 = 99 ∧ w_T b k 4 = 0))) := by
  obtain ⟨r1, r2, r3⟩ := rd
  unfold w_ok
  rw [if_neg r1, if_neg r2]
  exact ⟨fun h => h.resolve_left (fun e => r3 ⟨e.1, hk, e.2⟩), Or.inr⟩
theorem y_go (hA : w_A b k) (rd : y_rd b n k) (hk : k < n) (ok : w_ok (w_T b k) (b k)) : w_A b (k + 1) ∧ w_T b (k + 1) 2 = (if b k = 47 then 1 else if b k = 93 then 3 else if b k = 32 then 1 else 0) ∧ w_T b (k + 1) 3 = w_T b k 3 ∧ w_T b (k + 1) 4 = (if b k = 47 then 1 else if b k = 32 then 0 else w_T b k 4) ∧ w_T b (k + 1) 5 = (if b k = 93 then 0 else w_T b k 5) ∧ w_T b (k + 1) 6 = (if b k = 32 ∧ w_T b k 5 = 0 then w_T b k 6 + 1 else w_T b k 6) ∧ w_T b (k + 1) 7 = (if b k = 59 then w_T b k 7 + 1 else w_T b k 7) ∧ w_T b (k + 1) 8 = w_T b k 8 := by
  obtain ⟨r1, r2, r3⟩ := rd
  have r4 : ¬ (w_T b k 2 = 2 ∧ 48 ≤ b k ∧ b k ≤ 57) := fun e => r3 ⟨e.1, hk, e.2⟩
  refine ⟨w_As hA ok, ?_, ?_, ?_, ?_, ?_, ?_, ?_⟩
  · rw [w_Tn, w_nx2, if_neg r1, if_neg r2, if_neg r4]
  · rw [w_Tn, w_nx3, if_neg r1]
  · rw [w_Tn, w_nx4, if_neg r1, if_neg r2, if_neg r4]
  · rw [w_Tn, w_nx5, if_neg r1, if_neg r2, if_neg r4]
  · rw [w_Tn, w_nx6, if_neg r1, if_neg r2, if_neg r4]
  · rw [w_Tn, w_nx7 ok]
    by_cases c : b k = 59
    · rw [if_pos ⟨r1, r2, c⟩, if_pos c]
    · rw [if_neg (fun e => c e.2.2), if_neg c]
  · rw [w_Tn, w_nx8, if_neg (fun e => r2 e.1)]
theorem y_spc (hA : w_A b k) (rd : y_rd b n k) (hk : k < n) (e : b k = 32) (h3 : w_T b k 3 ≠ 98) (h4 : ¬ (w_T b k 3 = 99 ∧ w_T b k 4 = 0)) : w_A b (k + 1) ∧ w_T b (k + 1) 2 = 1 ∧ w_T b (k + 1) 3 = w_T b k 3 ∧ w_T b (k + 1) 4 = 0 ∧ w_T b (k + 1) 5 = w_T b k 5 ∧ w_T b (k + 1) 6 = (if w_T b k 5 = 0 then w_T b k 6 + 1 else w_T b k 6) ∧ w_T b (k + 1) 7 = w_T b k 7 ∧ w_T b (k + 1) 8 = w_T b k 8 := by
  have ok : w_ok (w_T b k) (b k) := (y_okr rd hk).mpr (Or.inr (Or.inr (Or.inl ⟨e, h3, h4⟩)))
  obtain ⟨a1, a2, a3, a4, a5, a6, a7, a8⟩ := y_go hA rd hk ok
  rw [e] at a2 a4 a5 a6 a7
  refine ⟨a1, a2, a3, a4, a5, ?_, a7, a8⟩
  rw [a6]
  by_cases c : w_T b k 5 = 0
  · rw [if_pos ⟨rfl, c⟩, if_pos c]
  · rw [if_neg (fun q => c q.2), if_neg c]
theorem y_sla (hA : w_A b k) (rd : y_rd b n k) (hk : k < n) (e : b k = 47) (h3 : w_T b k 3 = 99) (h4 : w_T b k 4 = 0) : w_A b (k + 1) ∧ w_T b (k + 1) 2 = 1 ∧ w_T b (k + 1) 3 = w_T b k 3 ∧ w_T b (k + 1) 4 = 1 ∧ w_T b (k + 1) 5 = w_T b k 5 ∧ w_T b (k + 1) 6 = w_T b k 6 ∧ w_T b (k + 1) 7 = w_T b k 7 ∧ w_T b (k + 1) 8 = w_T b k 8 := by
  have ok : w_ok (w_T b k) (b k) := (y_okr rd hk).mpr (Or.inl ⟨e, h3, h4⟩)
  obtain ⟨a1, a2, a3, a4, a5, a6, a7, a8⟩ := y_go hA rd hk ok
  rw [e] at a2 a4 a5 a6 a7
  exact ⟨a1, a2, a3, a4, a5, a6.trans (if_neg (fun q => absurd q.1 (by decide))), a7, a8⟩
theorem y_cls (hA : w_A b k) (rd : y_rd b n k) (hk : k < n) (e : b k = 93) (h5 : w_T b k 5 ≠ 0) : w_A b (k + 1) ∧ w_T b (k + 1) 2 = 3 ∧ w_T b (k + 1) 3 = w_T b k 3 ∧ w_T b (k + 1) 4 = w_T b k 4 ∧ w_T b (k + 1) 5 = 0 ∧ w_T b (k + 1) 6 = w_T b k 6 ∧ w_T b (k + 1) 7 = w_T b k 7 ∧ w_T b (k + 1) 8 = w_T b k 8 := by
  have ok : w_ok (w_T b k) (b k) := (y_okr rd hk).mpr (Or.inr (Or.inl ⟨e, h5⟩))
  obtain ⟨a1, a2, a3, a4, a5, a6, a7, a8⟩ := y_go hA rd hk ok
  rw [e] at a2 a4 a5 a6 a7
  exact ⟨a1, a2, a3, a4, a5, a6.trans (if_neg (fun q => absurd q.1 (by decide))), a7, a8⟩
theorem y_smc (hA : w_A b k) (rd : y_rd b n k) (hk : k < n) (e : b k = 59) (h5 : w_T b k 5 = 0) (h4 : ¬ (w_T b k 3 = 99 ∧ w_T b k 4 = 0)) : w_A b (k + 1) ∧ w_T b (k + 1) 2 = 0 ∧ w_T b (k + 1) 3 = w_T b k 3 ∧ w_T b (k + 1) 4 = w_T b k 4 ∧ w_T b (k + 1) 5 = w_T b k 5 ∧ w_T b (k + 1) 6 = w_T b k 6 ∧ w_T b (k + 1) 7 = w_T b k 7 + 1 ∧ w_T b (k + 1) 8 = w_T b k 8 := by
  have ok : w_ok (w_T b k) (b k) := (y_okr rd hk).mpr (Or.inr (Or.inr (Or.inr ⟨e, h5, h4⟩)))
  obtain ⟨a1, a2, a3, a4, a5, a6, a7, a8⟩ := y_go hA rd hk ok
  rw [e] at a2 a4 a5 a6 a7
  exact ⟨a1, a2, a3, a4, a5, a6.trans (if_neg (fun q => absurd q.1 (by decide))), a7, a8⟩
theorem y_opn (hA : w_A b k) (h2 : w_T b k 2 = 1) (e : b k = 91) (h3 : w_T b k 3 = 114) (h5 : w_T b k 5 = 0) : w_A b (k + 1) ∧ w_T b (k + 1) 2 = 1 ∧ w_T b (k + 1) 3 = w_T b k 3 ∧ w_T b (k + 1) 4 = w_T b k 4 ∧ w_T b (k + 1) 5 = 1 ∧ w_T b (k + 1) 6 = w_T b k 6 ∧ w_T b (k + 1) 7 = w_T b k 7 ∧ w_T b (k + 1) 8 = w_T b k 8 := by
  have ok : w_ok (w_T b k) (b k) := by
    unfold w_ok
    rw [if_neg (by omega), if_pos h2]
    exact Or.inr ⟨e, h3, h5⟩
  have d : ¬ (48 ≤ b k ∧ b k ≤ 57) := by omega
  refine ⟨w_As hA ok, ?_, ?_, ?_, ?_, ?_, ?_, ?_⟩
  · rw [w_Tn, w_nx2, if_neg (by omega), if_pos h2, if_neg d]
  · rw [w_Tn, w_nx3, if_neg (by omega)]
  · rw [w_Tn, w_nx4, if_neg (by omega), if_pos h2]
  · rw [w_Tn, w_nx5, if_neg (by omega), if_pos h2, if_neg d]
  · rw [w_Tn, w_nx6, if_neg (by omega), if_pos h2]
  · rw [w_Tn, w_nx7 ok, if_neg (by omega)]
  · rw [w_Tn, w_nx8, if_neg (by omega)]
theorem y_bgn (hA : w_A b k) (h2 : w_T b k 2 = 0) (e : b k = 99 ∨ b k = 114 ∨ b k = 102 ∨ b k = 98) : w_A b (k + 1) ∧ w_T b (k + 1) 2 = 1 ∧ w_T b (k + 1) 3 = b k ∧ w_T b (k + 1) 4 = 0 ∧ w_T b (k + 1) 5 = 0 ∧ w_T b (k + 1) 6 = 1 ∧ w_T b (k + 1) 7 = w_T b k 7 ∧ w_T b (k + 1) 8 = w_T b k 8 := by
  have ok : w_ok (w_T b k) (b k) := by
    unfold w_ok
    rw [if_pos h2]
    exact e
  refine ⟨w_As hA ok, ?_, ?_, ?_, ?_, ?_, ?_, ?_⟩
  · rw [w_Tn, w_nx2, if_pos h2]
  · rw [w_Tn, w_nx3, if_pos h2]
  · rw [w_Tn, w_nx4, if_pos h2]
  · rw [w_Tn, w_nx5, if_pos h2]
  · rw [w_Tn, w_nx6, if_pos h2]
  · rw [w_Tn, w_nx7 ok, if_neg (by omega)]
  · rw [w_Tn, w_nx8, if_neg (by omega)]
/-- where a number is wanted and none comes -/
theorem y_bad1 (hA : w_A b k) (hk : k ≤ n) (h2 : w_T b k 2 = 1) (q : ¬ (k < n ∧ 48 ≤ b k ∧ b k ≤ 57)) (q' : k < n → ¬ (b k = 91 ∧ w_T b k 3 = 114 ∧ w_T b k 5 = 0)) : y_bad b n k := by
  refine ⟨hA, hk, fun hl ok => ?_, fun e => by rw [← e, h2]; decide⟩
  unfold w_ok at ok
  rw [if_neg (by omega), if_pos h2] at ok
  rcases ok with ok | ok
  · exact q ⟨hl, ok⟩
  · exact q' hl ok
/-- where a sign is wanted and none comes -/
theorem y_bad2 (hA : w_A b k) (hk : k ≤ n) (rd : y_rd b n k) (h : k < n → ¬ ((b k = 47 ∧ w_T b k 3 = 99 ∧ w_T b k 4 = 0) ∨ (b k = 93 ∧ w_T b k 5 ≠ 0) ∨ (b k = 32 ∧ w_T b k 3 ≠ 98 ∧ ¬ (w_T b k 3 = 99 ∧ w_T b k 4 = 0)) ∨ (b k = 59 ∧ w_T b k 5 = 0 ∧ ¬ (w_T b k 3 = 99 ∧ w_T b k 4 = 0)))) : y_bad b n k :=
  ⟨hA, hk, fun hl ok => h hl ((y_okr rd hl).mp ok), fun e => by rw [← e]; exact rd.1⟩
theorem y_F (h : y_bad b n k) : w_F b n k := ⟨h.1, h.2.1, h.2.2.1, fun e q => h.2.2.2 e q.1⟩
/-- what reading leaves -/
def y_O (b : Nat → Int) (n k : Nat) (M : EM) (o : EO) (P : Nat → Prop) : Prop := ∃ r M' k', o = some (r, M') ∧ r_tt M M' ∧ y_B b n k' M' ∧ k ≤ k' ∧ w_A b k' ∧ ((r = 1 ∧ P k') ∨ (r = 0 ∧ y_bad b n k'))
def y_Pn (b : Nat → Int) (n k k' : Nat) : Prop := y_rd b n k' ∧ y_s b n k' ≠ 32 ∧ w_T b k' 3 = w_T b k 3 ∧ w_T b k' 5 = w_T b k 5 ∧ w_T b k' 7 = w_T b k 7
theorem y_nums_l : ∀ (m k : Nat) (M : EM), n - k ≤ m → y_B b n k M → w_A b k → y_rd b n k → (w_T b k 3 = 102 ∨ (w_T b k 3 = 114 ∧ w_T b k 5 ≠ 0)) → y_O b n k M (E_V 180 9 [192] M) (y_Pn b n k) := by
  intro m
  induction m with
  | zero =>
    intro k M hm hB hA rd h3
    obtain ⟨t1, t2⟩ := y_takes (c := 32) hB (by decide)
    have hk := hB.2.2.1
    have hn : y_s b n k ≠ 32 := fun e => by have := (y_lt e (by decide)).1; omega
    have k0 := t2 hn
    refine ⟨1, M, k, ?_, r_tt_rf hB.1, hB, Nat.le_refl _, hA, Or.inl ⟨rfl, rd, hn, rfl, rfl, rfl⟩⟩
    rw [E_V_eq]
    show e_tv E_C (E_V 180) e_t180_9 [192] M = _
    unfold e_t180_9
    simp [zq_a, zq_b, zq_c, zq_d, zq_e, zq_f, zq_g, zq_h, zq_i, zq_j, zq_k, zq_l, zq_m, zq_n, zq_o, zq_p, zq_q, zq_r, zq_s, zq_t, zq_u, zq_v, zq_w, zq_x, zq_y, zq_z, zq_A, zq_B, zq_C, zq_D, zq_E, zq_F, zq_G, zq_H, zq_I, zq_J, zq_K, zq_L, ↓zq_M, ↓zq_N, ↓zq_O, ↓zq_P, ↓zq_Q, ↓zq_R, zq_S, zq_T, zq_U, zq_V, zq_W, zq_X, zq_Y, zq_Z, zq_0, zq_1, zq_2, zq_3, zq_4, zq_5, ↓zq_6, ↓zq_7, ↓zq_8, ↓zq_9, ↓zq_aa, zq_ab, zq_ac, zq_ad, zq_ae, zq_af, zq_ag, ↓zq_ah, ↓zq_ai, ↓zq_aj, zq_ak, ↓zq_al, ↓zq_am, e_b1, e_b2, x_o1, x_o2, k0]
  | succ m ih =>
    intro k M hm hB hA rd h3
    obtain ⟨t1, t2⟩ := y_takes (c := 32) hB (by decide)
    by_cases q : y_s b n k = 32
    · obtain ⟨k1, l1, e1, tt1, B1⟩ := t1 q
      obtain ⟨a1, a2, a3, a4, a5, a6, a7, a8⟩ := y_spc hA rd l1 e1 (by omega) (by omega)
      obtain ⟨n1, n2⟩ := y_num B1 a1 a2
      by_cases d : k + 1 < n ∧ 48 ≤ b (k + 1) ∧ b (k + 1) ≤ 57
      · obtain ⟨k', M', k2, tt2, B2, ⟨z1, z2, z3, z4, z5, z6, z7, z8, z9, z10, z11⟩, -⟩ := n2 d
        obtain ⟨r, M'', k'', k3, tt3, B3, c1, c2, c3⟩ := ih k' M' (by omega) B2 z4 z5 (by rw [z6, z8, a3, a5]; exact h3)
        refine ⟨r, M'', k'', ?_, r_tt_tr tt1 (r_tt_tr tt2 tt3), B3, by omega, c2, ?_⟩
        · rw [E_V_eq]
          show e_tv E_C (E_V 180) e_t180_9 [192] M = _
          unfold e_t180_9
          simp [zq_a, zq_b, zq_c, zq_d, zq_e, zq_f, zq_g, zq_h, zq_i, zq_j, zq_k, zq_l, zq_m, zq_n, zq_o, zq_p, zq_q, zq_r, zq_s, zq_t, zq_u, zq_v, zq_w, zq_x, zq_y, zq_z, zq_A, zq_B, zq_C, zq_D, zq_E, zq_F, zq_G, zq_H, zq_I, zq_J, zq_K, zq_L, ↓zq_M, ↓zq_N, ↓zq_O, ↓zq_P, ↓zq_Q, ↓zq_R, zq_S, zq_T, zq_U, zq_V, zq_W, zq_X, zq_Y, zq_Z, zq_0, zq_1, zq_2, zq_3, zq_4, zq_5, ↓zq_6, ↓zq_7, ↓zq_8, ↓zq_9, ↓zq_aa, zq_ab, zq_ac, zq_ad, zq_ae, zq_af, zq_ag, ↓zq_ah, ↓zq_ai, ↓zq_aj, zq_ak, ↓zq_al, ↓zq_am, e_b1, e_b2, x_o1, x_o2, k1, k2, k3]
        · rcases c3 with ⟨e, p1, p2, p3, p4, p5⟩ | c3
          · exact Or.inl ⟨e, p1, p2, p3.trans (z6.trans a3), p4.trans (z8.trans a5), p5.trans (z10.trans a7)⟩
          · exact Or.inr c3
      · have k2 := n1 d
        refine ⟨0, _, k + 1, ?_, tt1, B1, by omega, a1, Or.inr ⟨rfl, y_bad1 a1 B1.2.2.1 a2 d (fun _ e => by omega)⟩⟩
        rw [E_V_eq]
        show e_tv E_C (E_V 180) e_t180_9 [192] M = _
        unfold e_t180_9
        simp [zq_a, zq_b, zq_c, zq_d, zq_e, zq_f, zq_g, zq_h, zq_i, zq_j, zq_k, zq_l, zq_m, zq_n, zq_o, zq_p, zq_q, zq_r, zq_s, zq_t, zq_u, zq_v, zq_w, zq_x, zq_y, zq_z, zq_A, zq_B, zq_C, zq_D, zq_E, zq_F, zq_G, zq_H, zq_I, zq_J, zq_K, zq_L, ↓zq_M, ↓zq_N, ↓zq_O, ↓zq_P, ↓zq_Q, ↓zq_R, zq_S, zq_T, zq_U, zq_V, zq_W, zq_X, zq_Y, zq_Z, zq_0, zq_1, zq_2, zq_3, zq_4, zq_5, ↓zq_6, ↓zq_7, ↓zq_8, ↓zq_9, ↓zq_aa, zq_ab, zq_ac, zq_ad, zq_ae, zq_af, zq_ag, ↓zq_ah, ↓zq_ai, ↓zq_aj, zq_ak, ↓zq_al, ↓zq_am, e_b1, e_b2, x_o1, x_o2, k1, k2]
    · have k0 := t2 q
      refine ⟨1, M, k, ?_, r_tt_rf hB.1, hB, Nat.le_refl _, hA, Or.inl ⟨rfl, rd, q, rfl, rfl, rfl⟩⟩
      rw [E_V_eq]
      show e_tv E_C (E_V 180) e_t180_9 [192] M = _
      unfold e_t180_9
      simp [zq_a, zq_b, zq_c, zq_d, zq_e, zq_f, zq_g, zq_h, zq_i, zq_j, zq_k, zq_l, zq_m, zq_n, zq_o, zq_p, zq_q, zq_r, zq_s, zq_t, zq_u, zq_v, zq_w, zq_x, zq_y, zq_z, zq_A, zq_B, zq_C, zq_D, zq_E, zq_F, zq_G, zq_H, zq_I, zq_J, zq_K, zq_L, ↓zq_M, ↓zq_N, ↓zq_O, ↓zq_P, ↓zq_Q, ↓zq_R, zq_S, zq_T, zq_U, zq_V, zq_W, zq_X, zq_Y, zq_Z, zq_0, zq_1, zq_2, zq_3, zq_4, zq_5, ↓zq_6, ↓zq_7, ↓zq_8, ↓zq_9, ↓zq_aa, zq_ab, zq_ac, zq_ad, zq_ae, zq_af, zq_ag, ↓zq_ah, ↓zq_ai, ↓zq_aj, zq_ak, ↓zq_al, ↓zq_am, e_b1, e_b2, x_o1, x_o2, k0]
theorem y_nums (hB : y_B b n k M) (hA : w_A b k) (h2 : w_T b k 2 = 1) (h3 : w_T b k 3 = 102 ∨ (w_T b k 3 = 114 ∧ w_T b k 5 ≠ 0)) : y_O b n k M (E_C 180 [192] M) (y_Pn b n k) := by
  obtain ⟨n1, n2⟩ := y_num hB hA h2
  by_cases d : k < n ∧ 48 ≤ b k ∧ b k ≤ 57
  · obtain ⟨k', M', k2, tt2, B2, ⟨z1, z2, z3, z4, z5, z6, z7, z8, z9, z10, z11⟩, -⟩ := n2 d
    obtain ⟨r, M'', k'', k3, tt3, B3, c1, c2, c3⟩ := y_nums_l _ k' M' (Nat.le_refl _) B2 z4 z5 (by rw [z6, z8]; exact h3)
    refine ⟨r, M'', k'', ?_, r_tt_tr tt2 tt3, B3, by omega, c2, ?_⟩
    · rw [r_ent (show e_rok 180 [192] = true from decide_eq_true r_ref)]
      show e_tv E_C (E_V 180) e_t180_0 [192] M = _
      unfold e_t180_0
      simp [zq_a, zq_b, zq_c, zq_d, zq_e, zq_f, zq_g, zq_h, zq_i, zq_j, zq_k, zq_l, zq_m, zq_n, zq_o, zq_p, zq_q, zq_r, zq_s, zq_t, zq_u, zq_v, zq_w, zq_x, zq_y, zq_z, zq_A, zq_B, zq_C, zq_D, zq_E, zq_F, zq_G, zq_H, zq_I, zq_J, zq_K, zq_L, ↓zq_M, ↓zq_N, ↓zq_O, ↓zq_P, ↓zq_Q, ↓zq_R, zq_S, zq_T, zq_U, zq_V, zq_W, zq_X, zq_Y, zq_Z, zq_0, zq_1, zq_2, zq_3, zq_4, zq_5, ↓zq_6, ↓zq_7, ↓zq_8, ↓zq_9, ↓zq_aa, zq_ab, zq_ac, zq_ad, zq_ae, zq_af, zq_ag, ↓zq_ah, ↓zq_ai, ↓zq_aj, zq_ak, ↓zq_al, ↓zq_am, e_b1, e_b2, x_o1, x_o2, k2, k3]
    · rcases c3 with ⟨e, p1, p2, p3, p4, p5⟩ | c3
      · exact Or.inl ⟨e, p1, p2, p3.trans z6, p4.trans z8, p5.trans z10⟩
      · exact Or.inr c3
  · have k2 := n1 d
    refine ⟨0, M, k, ?_, r_tt_rf hB.1, hB, Nat.le_refl _, hA, Or.inr ⟨rfl, y_bad1 hA hB.2.2.1 h2 d (fun _ e => by omega)⟩⟩
    rw [r_ent (show e_rok 180 [192] = true from decide_eq_true r_ref)]
    show e_tv E_C (E_V 180) e_t180_0 [192] M = _
    unfold e_t180_0
    simp [zq_a, zq_b, zq_c, zq_d, zq_e, zq_f, zq_g, zq_h, zq_i, zq_j, zq_k, zq_l, zq_m, zq_n, zq_o, zq_p, zq_q, zq_r, zq_s, zq_t, zq_u, zq_v, zq_w, zq_x, zq_y, zq_z, zq_A, zq_B, zq_C, zq_D, zq_E, zq_F, zq_G, zq_H, zq_I, zq_J, zq_K, zq_L, ↓zq_M, ↓zq_N, ↓zq_O, ↓zq_P, ↓zq_Q, ↓zq_R, zq_S, zq_T, zq_U, zq_V, zq_W, zq_X, zq_Y, zq_Z, zq_0, zq_1, zq_2, zq_3, zq_4, zq_5, ↓zq_6, ↓zq_7, ↓zq_8, ↓zq_9, ↓zq_aa, zq_ab, zq_ac, zq_ad, zq_ae, zq_af, zq_ag, ↓zq_ah, ↓zq_ai, ↓zq_aj, zq_ak, ↓zq_al, ↓zq_am, e_b1, e_b2, x_o1, x_o2, k2]
def y_Pp (b : Nat → Int) (n k k' : Nat) : Prop := y_rd b n k' ∧ w_T b k' 3 = 99 ∧ w_T b k' 4 = 1 ∧ w_T b k' 5 = 0 ∧ w_T b k' 7 = w_T b k 7
theorem y_point (hB : y_B b n k M) (hA : w_A b k) (h2 : w_T b k 2 = 1) (h3 : w_T b k 3 = 99) (h4 : w_T b k 4 = 0) (h5 : w_T b k 5 = 0) : y_O b n k M (E_C 181 [192] M) (y_Pp b n k) := by
  obtain ⟨n1, n2⟩ := y_num hB hA h2
  by_cases d : k < n ∧ 48 ≤ b k ∧ b k ≤ 57
  · obtain ⟨k1, M1, g1, tt1, B1, ⟨z1, z2, z3, z4, z5, z6, z7, z8, z9, z10, z11⟩, -⟩ := n2 d
    obtain ⟨t1, t2⟩ := y_takes (c := 47) B1 (by decide)
    by_cases q : y_s b n k1 = 47
    · obtain ⟨g2, l1, e1, tt2, B2⟩ := t1 q
      obtain ⟨a1, a2, a3, a4, a5, a6, a7, a8⟩ := y_sla z4 z5 l1 e1 (z6.trans h3) (z7.trans h4)
      obtain ⟨m1, m2⟩ := y_num B2 a1 a2
      by_cases d2 : k1 + 1 < n ∧ 48 ≤ b (k1 + 1) ∧ b (k1 + 1) ≤ 57
      · obtain ⟨k2, M2, g3, tt3, B3, ⟨y1, y2, y3, y4, y5, y6, y7, y8, y9, y10, y11⟩, -⟩ := m2 d2
        refine ⟨1, M2, k2, ?_, r_tt_tr tt1 (r_tt_tr tt2 tt3), B3, by omega, y4, Or.inl ⟨rfl, y5, y6.trans (a3.trans (z6.trans h3)), y7.trans a4, y8.trans (a5.trans (z8.trans h5)), y10.trans (a7.trans z10)⟩⟩
        rw [r_ent (show e_rok 181 [192] = true from decide_eq_true r_ref)]
        show e_tv E_C (E_V 181) e_t181_0 [192] M = _
        unfold e_t181_0
        simp [zq_a, zq_b, zq_c, zq_d, zq_e, zq_f, zq_g, zq_h, zq_i, zq_j, zq_k, zq_l, zq_m, zq_n, zq_o, zq_p, zq_q, zq_r, zq_s, zq_t, zq_u, zq_v, zq_w, zq_x, zq_y, zq_z, zq_A, zq_B, zq_C, zq_D, zq_E, zq_F, zq_G, zq_H, zq_I, zq_J, zq_K, zq_L, ↓zq_M, ↓zq_N, ↓zq_O, ↓zq_P, ↓zq_Q, ↓zq_R, zq_S, zq_T, zq_U, zq_V, zq_W, zq_X, zq_Y, zq_Z, zq_0, zq_1, zq_2, zq_3, zq_4, zq_5, ↓zq_6, ↓zq_7, ↓zq_8, ↓zq_9, ↓zq_aa, zq_ab, zq_ac, zq_ad, zq_ae, zq_af, zq_ag, ↓zq_ah, ↓zq_ai, ↓zq_aj, zq_ak, ↓zq_al, ↓zq_am, e_b1, e_b2, x_o1, x_o2, g1, g2, g3]
      · have g3 := m1 d2
        refine ⟨0, _, k1 + 1, ?_, r_tt_tr tt1 tt2, B2, by omega, a1, Or.inr ⟨rfl, y_bad1 a1 B2.2.2.1 a2 d2 (fun _ e => by omega)⟩⟩
        rw [r_ent (show e_rok 181 [192] = true from decide_eq_true r_ref)]
        show e_tv E_C (E_V 181) e_t181_0 [192] M = _
        unfold e_t181_0
        simp [zq_a, zq_b, zq_c, zq_d, zq_e, zq_f, zq_g, zq_h, zq_i, zq_j, zq_k, zq_l, zq_m, zq_n, zq_o, zq_p, zq_q, zq_r, zq_s, zq_t, zq_u, zq_v, zq_w, zq_x, zq_y, zq_z, zq_A, zq_B, zq_C, zq_D, zq_E, zq_F, zq_G, zq_H, zq_I, zq_J, zq_K, zq_L, ↓zq_M, ↓zq_N, ↓zq_O, ↓zq_P, ↓zq_Q, ↓zq_R, zq_S, zq_T, zq_U, zq_V, zq_W, zq_X, zq_Y, zq_Z, zq_0, zq_1, zq_2, zq_3, zq_4, zq_5, ↓zq_6, ↓zq_7, ↓zq_8, ↓zq_9, ↓zq_aa, zq_ab, zq_ac, zq_ad, zq_ae, zq_af, zq_ag, ↓zq_ah, ↓zq_ai, ↓zq_aj, zq_ak, ↓zq_al, ↓zq_am, e_b1, e_b2, x_o1, x_o2, g1, g2, g3]
    · have g2 := t2 q
      refine ⟨0, M1, k1, ?_, tt1, B1, by omega, z4, Or.inr ⟨rfl, y_bad2 z4 z2 z5 (fun hl e => ?_)⟩⟩
      · rw [r_ent (show e_rok 181 [192] = true from decide_eq_true r_ref)]
        show e_tv E_C (E_V 181) e_t181_0 [192] M = _
        unfold e_t181_0
        simp [zq_a, zq_b, zq_c, zq_d, zq_e, zq_f, zq_g, zq_h, zq_i, zq_j, zq_k, zq_l, zq_m, zq_n, zq_o, zq_p, zq_q, zq_r, zq_s, zq_t, zq_u, zq_v, zq_w, zq_x, zq_y, zq_z, zq_A, zq_B, zq_C, zq_D, zq_E, zq_F, zq_G, zq_H, zq_I, zq_J, zq_K, zq_L, ↓zq_M, ↓zq_N, ↓zq_O, ↓zq_P, ↓zq_Q, ↓zq_R, zq_S, zq_T, zq_U, zq_V, zq_W, zq_X, zq_Y, zq_Z, zq_0, zq_1, zq_2, zq_3, zq_4, zq_5, ↓zq_6, ↓zq_7, ↓zq_8, ↓zq_9, ↓zq_aa, zq_ab, zq_ac, zq_ad, zq_ae, zq_af, zq_ag, ↓zq_ah, ↓zq_ai, ↓zq_aj, zq_ak, ↓zq_al, ↓zq_am, e_b1, e_b2, x_o1, x_o2, g1, g2]
      · rw [y_sb hl] at q
        omega
  · have g1 := n1 d
    refine ⟨0, M, k, ?_, r_tt_rf hB.1, hB, Nat.le_refl _, hA, Or.inr ⟨rfl, y_bad1 hA hB.2.2.1 h2 d (fun _ e => by omega)⟩⟩
    rw [r_ent (show e_rok 181 [192] = true from decide_eq_true r_ref)]
    show e_tv E_C (E_V 181) e_t181_0 [192] M = _
    unfold e_t181_0
    simp [zq_a, zq_b, zq_c, zq_d, zq_e, zq_f, zq_g, zq_h, zq_i, zq_j, zq_k, zq_l, zq_m, zq_n, zq_o, zq_p, zq_q, zq_r, zq_s, zq_t, zq_u, zq_v, zq_w, zq_x, zq_y, zq_z, zq_A, zq_B, zq_C, zq_D, zq_E, zq_F, zq_G, zq_H, zq_I, zq_J, zq_K, zq_L, ↓zq_M, ↓zq_N, ↓zq_O, ↓zq_P, ↓zq_Q, ↓zq_R, zq_S, zq_T, zq_U, zq_V, zq_W, zq_X, zq_Y, zq_Z, zq_0, zq_1, zq_2, zq_3, zq_4, zq_5, ↓zq_6, ↓zq_7, ↓zq_8, ↓zq_9, ↓zq_aa, zq_ab, zq_ac, zq_ad, zq_ae, zq_af, zq_ag, ↓zq_ah, ↓zq_ai, ↓zq_aj, zq_ak, ↓zq_al, ↓zq_am, e_b1, e_b2, x_o1, x_o2, g1]
def y_Pi (b : Nat → Int) (n k k' : Nat) : Prop := y_rd b n k' ∧ w_T b k' 3 = 114 ∧ w_T b k' 5 = 0 ∧ w_T b k' 7 = w_T b k 7
theorem y_item (hB : y_B b n k M) (hA : w_A b k) (h2 : w_T b k 2 = 1) (h3 : w_T b k 3 = 114) (h5 : w_T b k 5 = 0) : y_O b n k M (E_C 182 [192] M) (y_Pi b n k) := by
  obtain ⟨t1, t2⟩ := y_takes (c := 91) hB (by decide)
  by_cases q : y_s b n k = 91
  · obtain ⟨g1, l1, e1, tt1, B1⟩ := t1 q
    obtain ⟨a1, a2, a3, a4, a5, a6, a7, a8⟩ := y_opn hA h2 e1 h3 h5
    obtain ⟨r, M2, k2, g2, tt2, B2, c1, c2, c3⟩ := y_nums B1 a1 a2 (Or.inr ⟨a3.trans h3, by rw [a5]; decide⟩)
    rcases c3 with ⟨e, p1, p2, p3, p4, p5⟩ | ⟨e, c3⟩
    · subst e
      obtain ⟨s1, s2⟩ := y_takes (c := 93) B2 (by decide)
      by_cases q2 : y_s b n k2 = 93
      · obtain ⟨g3, l3, e3, tt3, B3⟩ := s1 q2
        obtain ⟨u1, u2, u3, u4, u5, u6, u7, u8⟩ := y_cls c2 p1 l3 e3 (by rw [p4, a5]; decide)
        refine ⟨1, _, k2 + 1, ?_, r_tt_tr tt1 (r_tt_tr tt2 tt3), B3, by omega, u1, Or.inl ⟨rfl, ⟨by rw [u2]; decide, by rw [u2]; decide, by rw [u2]; exact fun e => absurd e.1 (by decide)⟩, u3.trans (p3.trans (a3.trans h3)), u5, u7.trans (p5.trans a7)⟩⟩
        rw [r_ent (show e_rok 182 [192] = true from decide_eq_true r_ref)]
        show e_tv E_C (E_V 182) e_t182_0 [192] M = _
        unfold e_t182_0
        simp [zq_a, zq_b, zq_c, zq_d, zq_e, zq_f, zq_g, zq_h, zq_i, zq_j, zq_k, zq_l, zq_m, zq_n, zq_o, zq_p, zq_q, zq_r, zq_s, zq_t, zq_u, zq_v, zq_w, zq_x, zq_y, zq_z, zq_A, zq_B, zq_C, zq_D, zq_E, zq_F, zq_G, zq_H, zq_I, zq_J, zq_K, zq_L, ↓zq_M, ↓zq_N, ↓zq_O, ↓zq_P, ↓zq_Q, ↓zq_R, zq_S, zq_T, zq_U, zq_V, zq_W, zq_X, zq_Y, zq_Z, zq_0, zq_1, zq_2, zq_3, zq_4, zq_5, ↓zq_6, ↓zq_7, ↓zq_8, ↓zq_9, ↓zq_aa, zq_ab, zq_ac, zq_ad, zq_ae, zq_af, zq_ag, ↓zq_ah, ↓zq_ai, ↓zq_aj, zq_ak, ↓zq_al, ↓zq_am, e_b1, e_b2, x_o1, x_o2, g1, g2, g3]
      · have g3 := s2 q2
        refine ⟨0, M2, k2, ?_, r_tt_tr tt1 tt2, B2, by omega, c2, Or.inr ⟨rfl, y_bad2 c2 B2.2.2.1 p1 (fun hl e => ?_)⟩⟩
        · rw [r_ent (show e_rok 182 [192] = true from decide_eq_true r_ref)]
          show e_tv E_C (E_V 182) e_t182_0 [192] M = _
          unfold e_t182_0
          simp [zq_a, zq_b, zq_c, zq_d, zq_e, zq_f, zq_g, zq_h, zq_i, zq_j, zq_k, zq_l, zq_m, zq_n, zq_o, zq_p, zq_q, zq_r, zq_s, zq_t, zq_u, zq_v, zq_w, zq_x, zq_y, zq_z, zq_A, zq_B, zq_C, zq_D, zq_E, zq_F, zq_G, zq_H, zq_I, zq_J, zq_K, zq_L, ↓zq_M, ↓zq_N, ↓zq_O, ↓zq_P, ↓zq_Q, ↓zq_R, zq_S, zq_T, zq_U, zq_V, zq_W, zq_X, zq_Y, zq_Z, zq_0, zq_1, zq_2, zq_3, zq_4, zq_5, ↓zq_6, ↓zq_7, ↓zq_8, ↓zq_9, ↓zq_aa, zq_ab, zq_ac, zq_ad, zq_ae, zq_af, zq_ag, ↓zq_ah, ↓zq_ai, ↓zq_aj, zq_ak, ↓zq_al, ↓zq_am, e_b1, e_b2, x_o1, x_o2, g1, g2, g3]
        · rw [y_sb hl] at q2 p2
          omega
    · subst e
      refine ⟨0, M2, k2, ?_, r_tt_tr tt1 tt2, B2, by omega, c2, Or.inr ⟨rfl, c3⟩⟩
      rw [r_ent (show e_rok 182 [192] = true from decide_eq_true r_ref)]
      show e_tv E_C (E_V 182) e_t182_0 [192] M = _
      unfold e_t182_0
      simp [zq_a, zq_b, zq_c, zq_d, zq_e, zq_f, zq_g, zq_h, zq_i, zq_j, zq_k, zq_l, zq_m, zq_n, zq_o, zq_p, zq_q, zq_r, zq_s, zq_t, zq_u, zq_v, zq_w, zq_x, zq_y, zq_z, zq_A, zq_B, zq_C, zq_D, zq_E, zq_F, zq_G, zq_H, zq_I, zq_J, zq_K, zq_L, ↓zq_M, ↓zq_N, ↓zq_O, ↓zq_P, ↓zq_Q, ↓zq_R, zq_S, zq_T, zq_U, zq_V, zq_W, zq_X, zq_Y, zq_Z, zq_0, zq_1, zq_2, zq_3, zq_4, zq_5, ↓zq_6, ↓zq_7, ↓zq_8, ↓zq_9, ↓zq_aa, zq_ab, zq_ac, zq_ad, zq_ae, zq_af, zq_ag, ↓zq_ah, ↓zq_ai, ↓zq_aj, zq_ak, ↓zq_al, ↓zq_am, e_b1, e_b2, x_o1, x_o2, g1, g2]
  · have g1 := t2 q
    obtain ⟨n1, n2⟩ := y_num hB hA h2
    by_cases d : k < n ∧ 48 ≤ b k ∧ b k ≤ 57
    · obtain ⟨k1, M1, g2, tt1, B1, ⟨z1, z2, z3, z4, z5, z6, z7, z8, z9, z10, z11⟩, -⟩ := n2 d
      refine ⟨1, M1, k1, ?_, tt1, B1, by omega, z4, Or.inl ⟨rfl, z5, z6.trans h3, z8.trans h5, z10⟩⟩
      rw [r_ent (show e_rok 182 [192] = true from decide_eq_true r_ref)]
      show e_tv E_C (E_V 182) e_t182_0 [192] M = _
      unfold e_t182_0
      simp [zq_a, zq_b, zq_c, zq_d, zq_e, zq_f, zq_g, zq_h, zq_i, zq_j, zq_k, zq_l, zq_m, zq_n, zq_o, zq_p, zq_q, zq_r, zq_s, zq_t, zq_u, zq_v, zq_w, zq_x, zq_y, zq_z, zq_A, zq_B, zq_C, zq_D, zq_E, zq_F, zq_G, zq_H, zq_I, zq_J, zq_K, zq_L, ↓zq_M, ↓zq_N, ↓zq_O, ↓zq_P, ↓zq_Q, ↓zq_R, zq_S, zq_T, zq_U, zq_V, zq_W, zq_X, zq_Y, zq_Z, zq_0, zq_1, zq_2, zq_3, zq_4, zq_5, ↓zq_6, ↓zq_7, ↓zq_8, ↓zq_9, ↓zq_aa, zq_ab, zq_ac, zq_ad, zq_ae, zq_af, zq_ag, ↓zq_ah, ↓zq_ai, ↓zq_aj, zq_ak, ↓zq_al, ↓zq_am, e_b1, e_b2, x_o1, x_o2, g1, g2]
    · have g2 := n1 d
      refine ⟨0, M, k, ?_, r_tt_rf hB.1, hB, Nat.le_refl _, hA, Or.inr ⟨rfl, y_bad1 hA hB.2.2.1 h2 d (fun hl e => ?_)⟩⟩
      · rw [r_ent (show e_rok 182 [192] = true from decide_eq_true r_ref)]
        show e_tv E_C (E_V 182) e_t182_0 [192] M = _
        unfold e_t182_0
        simp [zq_a, zq_b, zq_c, zq_d, zq_e, zq_f, zq_g, zq_h, zq_i, zq_j, zq_k, zq_l, zq_m, zq_n, zq_o, zq_p, zq_q, zq_r, zq_s, zq_t, zq_u, zq_v, zq_w, zq_x, zq_y, zq_z, zq_A, zq_B, zq_C, zq_D, zq_E, zq_F, zq_G, zq_H, zq_I, zq_J, zq_K, zq_L, ↓zq_M, ↓zq_N, ↓zq_O, ↓zq_P, ↓zq_Q, ↓zq_R, zq_S, zq_T, zq_U, zq_V, zq_W, zq_X, zq_Y, zq_Z, zq_0, zq_1, zq_2, zq_3, zq_4, zq_5, ↓zq_6, ↓zq_7, ↓zq_8, ↓zq_9, ↓zq_aa, zq_ab, zq_ac, zq_ad, zq_ae, zq_af, zq_ag, ↓zq_ah, ↓zq_ai, ↓zq_aj, zq_ak, ↓zq_al, ↓zq_am, e_b1, e_b2, x_o1, x_o2, g1, g2]
      · rw [y_sb hl] at q
        exact q e.1
def y_Ps (b : Nat → Int) (n k k' : Nat) : Prop := w_T b k' 2 = 0 ∧ w_T b k' 7 = w_T b k 7 + 1
theorem y_132 {x1 : Int} (hB : y_B b n k M) (hA : w_A b k) (rd : y_rd b n k) (h5 : w_T b k 5 = 0) (h4 : ¬ (w_T b k 3 = 99 ∧ w_T b k 4 = 0)) (h32 : w_T b k 3 = 98 ∨ y_s b n k ≠ 32) : y_O b n k M (E_V 183 132 [192, x1] M) (y_Ps b n k) := by
  obtain ⟨t1, t2⟩ := y_takes (c := 59) hB (by decide)
  by_cases q : y_s b n k = 59
  · obtain ⟨g1, l1, e1, tt1, B1⟩ := t1 q
    obtain ⟨a1, a2, a3, a4, a5, a6, a7, a8⟩ := y_smc hA rd l1 e1 h5 h4
    refine ⟨1, _, k + 1, ?_, tt1, B1, by omega, a1, Or.inl ⟨rfl, a2, a7⟩⟩
    rw [E_V_eq]
    show e_tv E_C (E_V 183) e_t183_132 [192, x1] M = _
    unfold e_t183_132
    simp [zq_a, zq_b, zq_c, zq_d, zq_e, zq_f, zq_g, zq_h, zq_i, zq_j, zq_k, zq_l, zq_m, zq_n, zq_o, zq_p, zq_q, zq_r, zq_s, zq_t, zq_u, zq_v, zq_w, zq_x, zq_y, zq_z, zq_A, zq_B, zq_C, zq_D, zq_E, zq_F, zq_G, zq_H, zq_I, zq_J, zq_K, zq_L, ↓zq_M, ↓zq_N, ↓zq_O, ↓zq_P, ↓zq_Q, ↓zq_R, zq_S, zq_T, zq_U, zq_V, zq_W, zq_X, zq_Y, zq_Z, zq_0, zq_1, zq_2, zq_3, zq_4, zq_5, ↓zq_6, ↓zq_7, ↓zq_8, ↓zq_9, ↓zq_aa, zq_ab, zq_ac, zq_ad, zq_ae, zq_af, zq_ag, ↓zq_ah, ↓zq_ai, ↓zq_aj, zq_ak, ↓zq_al, ↓zq_am, e_b1, e_b2, x_o1, x_o2, g1]
  · have g1 := t2 q
    refine ⟨0, M, k, ?_, r_tt_rf hB.1, hB, Nat.le_refl _, hA, Or.inr ⟨rfl, y_bad2 hA hB.2.2.1 rd (fun hl e => ?_)⟩⟩
    · rw [E_V_eq]
      show e_tv E_C (E_V 183) e_t183_132 [192, x1] M = _
      unfold e_t183_132
      simp [zq_a, zq_b, zq_c, zq_d, zq_e, zq_f, zq_g, zq_h, zq_i, zq_j, zq_k, zq_l, zq_m, zq_n, zq_o, zq_p, zq_q, zq_r, zq_s, zq_t, zq_u, zq_v, zq_w, zq_x, zq_y, zq_z, zq_A, zq_B, zq_C, zq_D, zq_E, zq_F, zq_G, zq_H, zq_I, zq_J, zq_K, zq_L, ↓zq_M, ↓zq_N, ↓zq_O, ↓zq_P, ↓zq_Q, ↓zq_R, zq_S, zq_T, zq_U, zq_V, zq_W, zq_X, zq_Y, zq_Z, zq_0, zq_1, zq_2, zq_3, zq_4, zq_5, ↓zq_6, ↓zq_7, ↓zq_8, ↓zq_9, ↓zq_aa, zq_ab, zq_ac, zq_ad, zq_ae, zq_af, zq_ag, ↓zq_ah, ↓zq_ai, ↓zq_aj, zq_ak, ↓zq_al, ↓zq_am, e_b1, e_b2, x_o1, x_o2, g1]
    · rw [y_sb hl] at q h32
      omega
theorem y_56 {x1 : Int} : ∀ (m k : Nat) (M : EM), n - k ≤ m → y_B b n k M → w_A b k → y_rd b n k → w_T b k 3 = 99 → w_T b k 4 = 1 → w_T b k 5 = 0 → y_O b n k M (E_V 183 56 [192, x1] M) (y_Ps b n k) := by
  intro m
  induction m with
  | zero =>
    intro k M hm hB hA rd h3 h4 h5
    obtain ⟨t1, t2⟩ := y_takes (c := 32) hB (by decide)
    have hk := hB.2.2.1
    have hn : y_s b n k ≠ 32 := fun e => by have := (y_lt e (by decide)).1; omega
    have k0 := t2 hn
    obtain ⟨r, M', k', k1, c1⟩ := y_132 (x1 := x1) hB hA rd h5 (by omega) (Or.inr hn)
    refine ⟨r, M', k', ?_, c1⟩
    rw [E_V_eq]
    show e_tv E_C (E_V 183) e_t183_56 [192, x1] M = _
    unfold e_t183_56
    simp [zq_a, zq_b, zq_c, zq_d, zq_e, zq_f, zq_g, zq_h, zq_i, zq_j, zq_k, zq_l, zq_m, zq_n, zq_o, zq_p, zq_q, zq_r, zq_s, zq_t, zq_u, zq_v, zq_w, zq_x, zq_y, zq_z, zq_A, zq_B, zq_C, zq_D, zq_E, zq_F, zq_G, zq_H, zq_I, zq_J, zq_K, zq_L, ↓zq_M, ↓zq_N, ↓zq_O, ↓zq_P, ↓zq_Q, ↓zq_R, zq_S, zq_T, zq_U, zq_V, zq_W, zq_X, zq_Y, zq_Z, zq_0, zq_1, zq_2, zq_3, zq_4, zq_5, ↓zq_6, ↓zq_7, ↓zq_8, ↓zq_9, ↓zq_aa, zq_ab, zq_ac, zq_ad, zq_ae, zq_af, zq_ag, ↓zq_ah, ↓zq_ai, ↓zq_aj, zq_ak, ↓zq_al, ↓zq_am, e_b1, e_b2, x_o1, x_o2, k0, k1]
  | succ m ih =>
    intro k M hm hB hA rd h3 h4 h5
    obtain ⟨t1, t2⟩ := y_takes (c := 32) hB (by decide)
    by_cases q : y_s b n k = 32
    · obtain ⟨g1, l1, e1, tt1, B1⟩ := t1 q
      obtain ⟨a1, a2, a3, a4, a5, a6, a7, a8⟩ := y_spc hA rd l1 e1 (by omega) (by omega)
      obtain ⟨r, M2, k2, g2, tt2, B2, c1, c2, c3⟩ := y_point B1 a1 a2 (a3.trans h3) a4 (a5.trans h5)
      rcases c3 with ⟨e, p1, p2, p3, p4, p5⟩ | ⟨e, c3⟩
      · subst e
        obtain ⟨r, M3, k3, g3, tt3, B3, d1, d2, d3⟩ := ih k2 M2 (by omega) B2 c2 p1 p2 p3 p4
        refine ⟨r, M3, k3, ?_, r_tt_tr tt1 (r_tt_tr tt2 tt3), B3, by omega, d2, ?_⟩
        · rw [E_V_eq]
          show e_tv E_C (E_V 183) e_t183_56 [192, x1] M = _
          unfold e_t183_56
          simp [zq_a, zq_b, zq_c, zq_d, zq_e, zq_f, zq_g, zq_h, zq_i, zq_j, zq_k, zq_l, zq_m, zq_n, zq_o, zq_p, zq_q, zq_r, zq_s, zq_t, zq_u, zq_v, zq_w, zq_x, zq_y, zq_z, zq_A, zq_B, zq_C, zq_D, zq_E, zq_F, zq_G, zq_H, zq_I, zq_J, zq_K, zq_L, ↓zq_M, ↓zq_N, ↓zq_O, ↓zq_P, ↓zq_Q, ↓zq_R, zq_S, zq_T, zq_U, zq_V, zq_W, zq_X, zq_Y, zq_Z, zq_0, zq_1, zq_2, zq_3, zq_4, zq_5, ↓zq_6, ↓zq_7, ↓zq_8, ↓zq_9, ↓zq_aa, zq_ab, zq_ac, zq_ad, zq_ae, zq_af, zq_ag, ↓zq_ah, ↓zq_ai, ↓zq_aj, zq_ak, ↓zq_al, ↓zq_am, e_b1, e_b2, x_o1, x_o2, g1, g2, g3]
        · rcases d3 with ⟨e, d3, d4⟩ | d3
          · exact Or.inl ⟨e, d3, by omega⟩
          · exact Or.inr d3
      · subst e
        refine ⟨0, M2, k2, ?_, r_tt_tr tt1 tt2, B2, by omega, c2, Or.inr ⟨rfl, c3⟩⟩
        rw [E_V_eq]
        show e_tv E_C (E_V 183) e_t183_56 [192, x1] M = _
        unfold e_t183_56
        simp [zq_a, zq_b, zq_c, zq_d, zq_e, zq_f, zq_g, zq_h, zq_i, zq_j, zq_k, zq_l, zq_m, zq_n, zq_o, zq_p, zq_q, zq_r, zq_s, zq_t, zq_u, zq_v, zq_w, zq_x, zq_y, zq_z, zq_A, zq_B, zq_C, zq_D, zq_E, zq_F, zq_G, zq_H, zq_I, zq_J, zq_K, zq_L, ↓zq_M, ↓zq_N, ↓zq_O, ↓zq_P, ↓zq_Q, ↓zq_R, zq_S, zq_T, zq_U, zq_V, zq_W, zq_X, zq_Y, zq_Z, zq_0, zq_1, zq_2, zq_3, zq_4, zq_5, ↓zq_6, ↓zq_7, ↓zq_8, ↓zq_9, ↓zq_aa, zq_ab, zq_ac, zq_ad, zq_ae, zq_af, zq_ag, ↓zq_ah, ↓zq_ai, ↓zq_aj, zq_ak, ↓zq_al, ↓zq_am, e_b1, e_b2, x_o1, x_o2, g1, g2]
    · have k0 := t2 q
      obtain ⟨r, M', k', k1, c1⟩ := y_132 (x1 := x1) hB hA rd h5 (by omega) (Or.inr q)
      refine ⟨r, M', k', ?_, c1⟩
      rw [E_V_eq]
      show e_tv E_C (E_V 183) e_t183_56 [192, x1] M = _
      unfold e_t183_56
      simp [zq_a, zq_b, zq_c, zq_d, zq_e, zq_f, zq_g, zq_h, zq_i, zq_j, zq_k, zq_l, zq_m, zq_n, zq_o, zq_p, zq_q, zq_r, zq_s, zq_t, zq_u, zq_v, zq_w, zq_x, zq_y, zq_z, zq_A, zq_B, zq_C, zq_D, zq_E, zq_F, zq_G, zq_H, zq_I, zq_J, zq_K, zq_L, ↓zq_M, ↓zq_N, ↓zq_O, ↓zq_P, ↓zq_Q, ↓zq_R, zq_S, zq_T, zq_U, zq_V, zq_W, zq_X, zq_Y, zq_Z, zq_0, zq_1, zq_2, zq_3, zq_4, zq_5, ↓zq_6, ↓zq_7, ↓zq_8, ↓zq_9, ↓zq_aa, zq_ab, zq_ac, zq_ad, zq_ae, zq_af, zq_ag, ↓zq_ah, ↓zq_ai, ↓zq_aj, zq_ak, ↓zq_al, ↓zq_am, e_b1, e_b2, x_o1, x_o2, k0, k1]
theorem y_89 {x1 : Int} : ∀ (m k : Nat) (M : EM), n - k ≤ m → y_B b n k M → w_A b k → y_rd b n k → w_T b k 3 = 114 → w_T b k 5 = 0 → y_O b n k M (E_V 183 89 [192, x1] M) (y_Ps b n k) := by
  intro m
  induction m with
  | zero =>
    intro k M hm hB hA rd h3 h5
    obtain ⟨t1, t2⟩ := y_takes (c := 32) hB (by decide)
    have hk := hB.2.2.1
    have hn : y_s b n k ≠ 32 := fun e => by have := (y_lt e (by decide)).1; omega
    have k0 := t2 hn
    obtain ⟨r, M', k', k1, c1⟩ := y_132 (x1 := x1) hB hA rd h5 (by omega) (Or.inr hn)
    refine ⟨r, M', k', ?_, c1⟩
    rw [E_V_eq]
    show e_tv E_C (E_V 183) e_t183_89 [192, x1] M = _
    unfold e_t183_89
    simp [zq_a, zq_b, zq_c, zq_d, zq_e, zq_f, zq_g, zq_h, zq_i, zq_j, zq_k, zq_l, zq_m, zq_n, zq_o, zq_p, zq_q, zq_r, zq_s, zq_t, zq_u, zq_v, zq_w, zq_x, zq_y, zq_z, zq_A, zq_B, zq_C, zq_D, zq_E, zq_F, zq_G, zq_H, zq_I, zq_J, zq_K, zq_L, ↓zq_M, ↓zq_N, ↓zq_O, ↓zq_P, ↓zq_Q, ↓zq_R, zq_S, zq_T, zq_U, zq_V, zq_W, zq_X, zq_Y, zq_Z, zq_0, zq_1, zq_2, zq_3, zq_4, zq_5, ↓zq_6, ↓zq_7, ↓zq_8, ↓zq_9, ↓zq_aa, zq_ab, zq_ac, zq_ad, zq_ae, zq_af, zq_ag, ↓zq_ah, ↓zq_ai, ↓zq_aj, zq_ak, ↓zq_al, ↓zq_am, e_b1, e_b2, x_o1, x_o2, k0, k1]
  | succ m ih =>
    intro k M hm hB hA rd h3 h5
    obtain ⟨t1, t2⟩ := y_takes (c := 32) hB (by decide)
    by_cases q : y_s b n k = 32
    · obtain ⟨g1, l1, e1, tt1, B1⟩ := t1 q
      obtain ⟨a1, a2, a3, a4, a5, a6, a7, a8⟩ := y_spc hA rd l1 e1 (by omega) (by omega)
      obtain ⟨r, M2, k2, g2, tt2, B2, c1, c2, c3⟩ := y_item B1 a1 a2 (a3.trans h3) (a5.trans h5)
      rcases c3 with ⟨e, p1, p2, p3, p4⟩ | ⟨e, c3⟩
      · subst e
        obtain ⟨r, M3, k3, g3, tt3, B3, d1, d2, d3⟩ := ih k2 M2 (by omega) B2 c2 p1 p2 p3
        refine ⟨r, M3, k3, ?_, r_tt_tr tt1 (r_tt_tr tt2 tt3), B3, by omega, d2, ?_⟩
        · rw [E_V_eq]
          show e_tv E_C (E_V 183) e_t183_89 [192, x1] M = _
          unfold e_t183_89
          simp [zq_a, zq_b, zq_c, zq_d, zq_e, zq_f, zq_g, zq_h, zq_i, zq_j, zq_k, zq_l, zq_m, zq_n, zq_o, zq_p, zq_q, zq_r, zq_s, zq_t, zq_u, zq_v, zq_w, zq_x, zq_y, zq_z, zq_A, zq_B, zq_C, zq_D, zq_E, zq_F, zq_G, zq_H, zq_I, zq_J, zq_K, zq_L, ↓zq_M, ↓zq_N, ↓zq_O, ↓zq_P, ↓zq_Q, ↓zq_R, zq_S, zq_T, zq_U, zq_V, zq_W, zq_X, zq_Y, zq_Z, zq_0, zq_1, zq_2, zq_3, zq_4, zq_5, ↓zq_6, ↓zq_7, ↓zq_8, ↓zq_9, ↓zq_aa, zq_ab, zq_ac, zq_ad, zq_ae, zq_af, zq_ag, ↓zq_ah, ↓zq_ai, ↓zq_aj, zq_ak, ↓zq_al, ↓zq_am, e_b1, e_b2, x_o1, x_o2, g1, g2, g3]
        · rcases d3 with ⟨e, d3, d4⟩ | d3
          · exact Or.inl ⟨e, d3, by omega⟩
          · exact Or.inr d3
      · subst e
        refine ⟨0, M2, k2, ?_, r_tt_tr tt1 tt2, B2, by omega, c2, Or.inr ⟨rfl, c3⟩⟩
        rw [E_V_eq]
        show e_tv E_C (E_V 183) e_t183_89 [192, x1] M = _
        unfold e_t183_89
        simp [zq_a, zq_b, zq_c, zq_d, zq_e, zq_f, zq_g, zq_h, zq_i, zq_j, zq_k, zq_l, zq_m, zq_n, zq_o, zq_p, zq_q, zq_r, zq_s, zq_t, zq_u, zq_v, zq_w, zq_x, zq_y, zq_z, zq_A, zq_B, zq_C, zq_D, zq_E, zq_F, zq_G, zq_H, zq_I, zq_J, zq_K, zq_L, ↓zq_M, ↓zq_N, ↓zq_O, ↓zq_P, ↓zq_Q, ↓zq_R, zq_S, zq_T, zq_U, zq_V, zq_W, zq_X, zq_Y, zq_Z, zq_0, zq_1, zq_2, zq_3, zq_4, zq_5, ↓zq_6, ↓zq_7, ↓zq_8, ↓zq_9, ↓zq_aa, zq_ab, zq_ac, zq_ad, zq_ae, zq_af, zq_ag, ↓zq_ah, ↓zq_ai, ↓zq_aj, zq_ak, ↓zq_al, ↓zq_am, e_b1, e_b2, x_o1, x_o2, g1, g2]
    · have k0 := t2 q
      obtain ⟨r, M', k', k1, c1⟩ := y_132 (x1 := x1) hB hA rd h5 (by omega) (Or.inr q)
      refine ⟨r, M', k', ?_, c1⟩
      rw [E_V_eq]
      show e_tv E_C (E_V 183) e_t183_89 [192, x1] M = _
      unfold e_t183_89
      simp [zq_a, zq_b, zq_c, zq_d, zq_e, zq_f, zq_g, zq_h, zq_i, zq_j, zq_k, zq_l, zq_m, zq_n, zq_o, zq_p, zq_q, zq_r, zq_s, zq_t, zq_u, zq_v, zq_w, zq_x, zq_y, zq_z, zq_A, zq_B, zq_C, zq_D, zq_E, zq_F, zq_G, zq_H, zq_I, zq_J, zq_K, zq_L, ↓zq_M, ↓zq_N, ↓zq_O, ↓zq_P, ↓zq_Q, ↓zq_R, zq_S, zq_T, zq_U, zq_V, zq_W, zq_X, zq_Y, zq_Z, zq_0, zq_1, zq_2, zq_3, zq_4, zq_5, ↓zq_6, ↓zq_7, ↓zq_8, ↓zq_9, ↓zq_aa, zq_ab, zq_ac, zq_ad, zq_ae, zq_af, zq_ag, ↓zq_ah, ↓zq_ai, ↓zq_aj, zq_ak, ↓zq_al, ↓zq_am, e_b1, e_b2, x_o1, x_o2, k0, k1]
end YL
end
