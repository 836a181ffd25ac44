theorem h_262d {d i e j n s z z' a c : Int} {M : EM} (c0 : E_C 173 [d] M = some (1, M)) (c1 : E_C 173 [e] M = some (1, M)) (l1 : e_op 60 [195, d] M = some 2) (l2 : e_op 60 [195, e] M = some 2) (l3 : e_op 60 [196, d] M = some s) (l4 : e_op 60 [196, e] M = some s) (l5 : e_op 60 [197, d] M = some z) (l6 : e_op 60 [197, e] M = some z') (w1 : 0 ≤ i → e_w (z - i) = a) (w2 : 0 ≤ j → e_w (z' - j) = c) (h : ¬ (0 ≤ n ∧ 0 ≤ i ∧ 0 ≤ j ∧ n ≤ a ∧ n ≤ c)) : E_C 262 [192, d, i, e, j, n] M = some (-13, M) := by
  rw [r_ent (show e_rok 262 [192, d, i, e, j, n] = true from decide_eq_true r_ref)]
  show e_tv E_C (E_V 262) e_t262_0 [192, d, i, e, j, n, 0, 0] M = _
  unfold e_t262_0
  rcases x_le 0 n with ⟨q1, q1_n⟩ | ⟨q1, q1_n⟩
  · rcases x_le 0 i with ⟨q2, q2_n⟩ | ⟨q2, q2_n⟩
    · have w1 := w1 q2
      rcases x_le 0 j with ⟨q3, q3_n⟩ | ⟨q3, q3_n⟩
      · have w2 := w2 q3
        rcases x_le n a with ⟨q4, q4_n⟩ | ⟨q4, q4_n⟩
        · have q5 : ¬ n ≤ c := fun e => h ⟨q1, q2, q3, q4, e⟩
          have q5_n : c < n := by
            clear w1 w2
            omega
          simp [e_tv, e_ev, e_sv, e_b1, e_b2, x_o1, x_o2, r_O2, r_O3, r_O4, c0, c1, l1, l2, l3, l4, l5, l6, w1, w2, q1, q1_n, q2, q2_n, q3, q3_n, q4, q4_n, q5, q5_n]
        · simp [e_tv, e_ev, e_sv, e_b1, e_b2, x_o1, x_o2, r_O2, r_O3, r_O4, c0, c1, l1, l2, l3, l4, l5, l6, w1, w2, q1, q1_n, q2, q2_n, q3, q3_n, q4, q4_n]
      · simp [e_tv, e_ev, e_sv, e_b1, e_b2, x_o1, x_o2, r_O2, r_O3, r_O4, c0, c1, l1, l2, l3, l4, l5, l6, q1, q1_n, q2, q2_n, q3, q3_n]
    · simp [e_tv, e_ev, e_sv, e_b1, e_b2, x_o1, x_o2, r_O2, r_O3, r_O4, c0, c1, l1, l2, l3, l4, l5, l6, q1, q1_n, q2, q2_n]
  · simp [e_tv, e_ev, e_sv, e_b1, e_b2, x_o1, x_o2, r_O2, r_O3, r_O4, c0, c1, l1, l2, l3, l4, l5, l6, q1, q1_n]
theorem h_262e {d i e j n s z z' a c : Int} {M : EM} {o : EO} (c0 : E_C 173 [d] M = some (1, M)) (c1 : E_C 173 [e] M = some (1, M)) (l1 : e_op 60 [195, d] M = some 2) (l2 : e_op 60 [195, e] M = some 2) (l3 : e_op 60 [196, d] M = some s) (l4 : e_op 60 [196, e] M = some s) (l5 : e_op 60 [197, d] M = some z) (l6 : e_op 60 [197, e] M = some z') (w1 : e_w (z - i) = a) (w2 : e_w (z' - j) = c) (q1 : 0 ≤ n) (q2 : 0 ≤ i) (q3 : 0 ≤ j) (q4 : n ≤ a) (q5 : n ≤ c) (k : E_V 262 122 [192, d, i, e, j, n, 0, 0] M = o) : E_C 262 [192, d, i, e, j, n] M = o := by
  have q1_n : ¬ n < 0 := by clear w1 w2; omega
  have q2_n : ¬ i < 0 := by clear w1 w2; omega
  have q3_n : ¬ j < 0 := by clear w1 w2; omega
  have q4_n : ¬ a < n := by clear w1 w2; omega
  have q5_n : ¬ c < n := by clear w1 w2; omega
  rw [r_ent (show e_rok 262 [192, d, i, e, j, n] = true from decide_eq_true r_ref)]
  show e_tv E_C (E_V 262) e_t262_0 [192, d, i, e, j, n, 0, 0] M = _
  unfold e_t262_0
  simp [e_tv, e_ev, e_sv, e_b1, e_b2, x_o1, x_o2, r_O2, r_O3, r_O4, c0, c1, l1, l2, l3, l4, l5, l6, w1, w2, q1, q1_n, q2, q2_n, q3, q3_n, q4, q4_n, q5, q5_n, k]
theorem h_262s {d i e j n q y t ia ib v b1 b2 b3 b4 q' n1 : Int} {na : Nat} {M : EM} (h : q < n) (wn : e_w (n - 1) = n1) (ht : t = if j < i then q else e_w (n1 - q)) (w1 : e_w (120 * e) = b1) (w2 : e_w (b1 + j) = b2) (w3 : e_w (b2 + t) = ib) (w4 : e_w (120 * d) = b3) (w5 : e_w (b3 + i) = b4) (w6 : e_w (b4 + t) = ia) (w7 : e_w (q + 1) = q') (l : e_op 60 [198, ia] M = some v) (st : e_st 100 [198, ib, v] M = some (e_up M 198 na v)) : E_V 262 122 [192, d, i, e, j, n, q, y] M = E_V 262 122 [192, d, i, e, j, n, q', t] (e_up M 198 na v) := by
  rw [E_V_eq]
  show e_tv E_C (E_V 262) e_t262_122 [192, d, i, e, j, n, q, y] M = _
  unfold e_t262_122
  rcases x_lt j i with ⟨c, c_n⟩ | ⟨c, c_n⟩
  · rw [if_pos c] at ht
    subst ht
    simp [e_tv, e_ev, e_sv, e_b1, e_b2, x_o1, x_o2, r_O5, h, c, c_n, w1, w2, w3, w4, w5, w6, w7, l, st]
  · rw [if_neg c] at ht
    subst ht
    simp [e_tv, e_ev, e_sv, e_b1, e_b2, x_o1, x_o2, r_O5, h, wn, c, c_n, w1, w2, w3, w4, w5, w6, w7, l, st]
theorem h_262z {d i e j n y : Int} {M : EM} : E_V 262 122 [192, d, i, e, j, n, n, y] M = some (n, M) := by
  rw [E_V_eq]
  show e_tv E_C (E_V 262) e_t262_122 [192, d, i, e, j, n, n, y] M = _
  unfold e_t262_122
  simp [e_tv, e_ev, e_sv, e_b1, e_b2, x_o1, x_o2]

