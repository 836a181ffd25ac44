/-! the reference makes a ROW: its items -/
theorem y_l166 {P x2 gr x5 x6 x7 ia : Int} {na : Nat} {M : EM} (v1 : e_w (28 * P) = 28 * P) (v2 : e_w (28 * P + 20) = 28 * P + 20) (v3 : e_w (28 * P + 20 + gr) = ia) (s1 : ∀ v, e_st 100 [193, ia, v] M = some (e_up M 193 na v)) (h5 : x5 = 0 ∨ x5 = 1) : E_V 186 166 [192, P, x2, gr, 1, x5, x6, x7] M = E_V 186 195 [192, P, x2, gr, 1, x5, x6, x7] (e_up M 193 na x5) := by
  rcases h5 with h5 | h5
  · subst h5
    rw [E_V_eq]
    show e_tv E_C (E_V 186) e_t186_166 [192, P, x2, gr, 1, 0, x6, x7] M = _
    unfold e_t186_166
    simp [e_tv, e_ev, e_sv, e_b1, e_b2, x_o1, x_o2, r_O0, v1, v2, v3, s1]
  · subst h5
    rw [E_V_eq]
    show e_tv E_C (E_V 186) e_t186_166 [192, P, x2, gr, 1, 1, x6, x7] M = _
    unfold e_t186_166
    simp [e_tv, e_ev, e_sv, e_b1, e_b2, x_o1, x_o2, r_O0, v1, v2, v3, s1]
theorem y_l166n {P x2 gr x5 x6 x7 : Int} {M : EM} : E_V 186 166 [192, P, x2, gr, 0, x5, x6, x7] M = E_V 186 195 [192, P, x2, gr, 0, x5, x6, x7] M := by
  rw [E_V_eq]
  show e_tv E_C (E_V 186) e_t186_166 [192, P, x2, gr, 0, x5, x6, x7] M = _
  unfold e_t186_166
  simp [e_tv, e_ev, e_sv, e_b1, e_b2, x_o1, x_o2]
theorem y_l28a {P gr d I x7 Qv ia ib ic : Int} {na nb nc : Nat} {M M2 N1 : EM} (g2 : E_C 179 [192] M = some (1, M2)) (hq : M2 192 18 = Qv) (c1i : I < 8) (k5 : E_C 185 [192, Qv, P, 1] M2 = some (1, M2)) (v1 : e_w (28 * P) = 28 * P) (v2 : e_w (28 * P + 3) = 28 * P + 3) (v3 : e_w (28 * P + 3 + I) = ia) (v8 : e_w (28 * P + 11) = 28 * P + 11) (v9 : e_w (28 * P + 11 + I) = ic) (v4 : e_w (28 * Qv) = 28 * Qv) (v5 : e_w (28 * Qv + 1) = ib) (v6 : e_w (I + 1) = I + 1) (v7 : e_w (P + 1) = P + 1) (s1 : ∀ v, e_st 100 [193, ia, v] M2 = some (e_up M2 193 na v)) (s3 : ∀ v M, e_st 100 [193, ic, v] M = some (e_up M 193 nc v)) (s2 : ∀ v M, e_st 100 [193, ib, v] M = some (e_up M 193 nb v)) (hN1' : e_up (e_up (e_up M2 193 na Qv) 193 nc gr) 193 nb (P + 1) = N1) : E_V 186 28 [192, P, I, gr, 1, d, 1, x7] M = E_V 186 127 [192, P, I + 1, gr, 1, d, 1, 1] N1 := by
  rw [E_V_eq]
  show e_tv E_C (E_V 186) e_t186_28 [192, P, I, gr, 1, d, 1, x7] M = _
  unfold e_t186_28
  simp [e_tv, e_ev, e_sv, e_b1, e_b2, x_o1, x_o2, r_O0, r_F15, r_F18, r_P15, y_n192, g2, hq, c1i, k5, v1, v2, v3, v4, v5, v6, v7, v8, v9, s1, s2, s3, hN1']
theorem y_l28b {P gr d x2 x7 : Int} {M M2 : EM} (g2 : E_C 179 [192] M = some (1, M2)) : E_V 186 28 [192, P, x2, gr, 0, d, 1, x7] M = E_V 186 127 [192, P, x2, gr, 0, d, 1, 1] M2 := by
  rw [E_V_eq]
  show e_tv E_C (E_V 186) e_t186_28 [192, P, x2, gr, 0, d, 1, x7] M = _
  unfold e_t186_28
  simp [e_tv, e_ev, e_sv, e_b1, e_b2, x_o1, x_o2, r_O0, r_F18, g2]
theorem y_l28c {P gr d x2 x7 : Int} {M M2 : EM} (g2 : E_C 179 [192] M = some (1, M2)) (c : ¬ x2 < 8) : E_V 186 28 [192, P, x2, gr, 1, d, 1, x7] M = E_V 186 127 [192, P, x2, gr, 0, d, 1, 1] M2 := by
  rw [E_V_eq]
  show e_tv E_C (E_V 186) e_t186_28 [192, P, x2, gr, 1, d, 1, x7] M = _
  unfold e_t186_28
  simp [e_tv, e_ev, e_sv, e_b1, e_b2, x_o1, x_o2, r_O0, r_F18, g2, c]
theorem y_l28d {P gr d x2 x7 Qv : Int} {M M2 : EM} (g2 : E_C 179 [192] M = some (1, M2)) (hq : M2 192 18 = Qv) (c : x2 < 8) (k5 : E_C 185 [192, Qv, P, 1] M2 = some (0, M2)) : E_V 186 28 [192, P, x2, gr, 1, d, 1, x7] M = E_V 186 127 [192, P, x2, gr, 0, d, 1, 1] M2 := by
  rw [E_V_eq]
  show e_tv E_C (E_V 186) e_t186_28 [192, P, x2, gr, 1, d, 1, x7] M = _
  unfold e_t186_28
  simp [e_tv, e_ev, e_sv, e_b1, e_b2, x_o1, x_o2, r_O0, r_F18, g2, hq, c, k5]
theorem y_l127a {P gr x2 x4 x6 x7 : Int} {M : EM} : E_V 186 127 [192, P, x2, gr, x4, 0, x6, x7] M = E_V 186 28 [192, P, x2, gr, x4, 0, 0, x7] M := by
  rw [E_V_eq]
  show e_tv E_C (E_V 186) e_t186_127 [192, P, x2, gr, x4, 0, x6, x7] M = _
  unfold e_t186_127
  simp [e_tv, e_ev, e_sv, e_b1, e_b2, x_o1, x_o2]
theorem y_l127b {P gr x2 x4 x6 x7 t : Int} {M M' : EM} (k : E_C 178 [192, 32] M = some (t, M')) (ht : t = 0 ∨ t = 1) : E_V 186 127 [192, P, x2, gr, x4, 1, x6, x7] M = E_V 186 28 [192, P, x2, gr, x4, 1, t, x7] M' := by
  rcases ht with ht | ht
  · subst ht
    rw [E_V_eq]
    show e_tv E_C (E_V 186) e_t186_127 [192, P, x2, gr, x4, 1, x6, x7] M = _
    unfold e_t186_127
    simp [e_tv, e_ev, e_sv, e_b1, e_b2, x_o1, x_o2, k]
  · subst ht
    rw [E_V_eq]
    show e_tv E_C (E_V 186) e_t186_127 [192, P, x2, gr, x4, 1, x6, x7] M = _
    unfold e_t186_127
    simp [e_tv, e_ev, e_sv, e_b1, e_b2, x_o1, x_o2, k]
theorem y_l28y {P gr x2 x4 x7 : Int} {M : EM} : E_V 186 28 [192, P, x2, gr, x4, 0, 0, x7] M = E_V 186 166 [192, P, x2, gr, x4, 0, 0, x7] M := by
  rw [E_V_eq]
  show e_tv E_C (E_V 186) e_t186_28 [192, P, x2, gr, x4, 0, 0, x7] M = _
  unfold e_t186_28
  simp [e_tv, e_ev, e_sv, e_b1, e_b2, x_o1, x_o2]
theorem y_l28z {P gr x2 x4 x7 pos k1 : Int} {M : EM} (h15 : M 192 15 = pos) (w1 : e_w (pos + 1) = k1) : E_V 186 28 [192, P, x2, gr, x4, 1, 0, x7] M = E_V 186 166 [192, P, x2, gr, x4, 1, 0, x7] (e_up M 192 15 k1) := by
  rw [E_V_eq]
  show e_tv E_C (E_V 186) e_t186_28 [192, P, x2, gr, x4, 1, 0, x7] M = _
  unfold e_t186_28
  simp [e_tv, e_ev, e_sv, e_b1, e_b2, x_o1, x_o2, r_F15, r_P15, h15, w1]
theorem y_l7 {P gr x2 x4 x5 x6 x7 pos k1 t : Int} {M M1 M' : EM} (h15 : M 192 15 = pos) (w1 : e_w (pos + 1) = k1) (hM1' : e_up M 192 15 k1 = M1) (k : E_C 178 [192, 91] M1 = some (t, M')) : E_V 186 7 [192, P, x2, gr, x4, x5, x6, x7] M = E_V 186 28 [192, P, x2, gr, x4, t, 1, x7] M' := by
  rw [E_V_eq]
  show e_tv E_C (E_V 186) e_t186_7 [192, P, x2, gr, x4, x5, x6, x7] M = _
  unfold e_t186_7
  simp [e_tv, e_ev, e_sv, e_b1, e_b2, x_o1, x_o2, r_F15, r_P15, h15, w1, hM1', k]
theorem y_k1 {b : Nat → Int} {n k : Nat} {M : EM} (hB : y_B b n k M) : e_w ((k : Int) + 1) = (k : Int) + 1 := by
  have h3 := hB.2.2.1
  have h5 := hB.2.2.2.2.1
  clear hB
  exact a_w_id (by omega) (by omega)
theorem y_ws {P I Qv : Int} (hp : 0 ≤ P ∧ P < 40) (hi : 0 ≤ I ∧ I ≤ 8) (hq : 0 ≤ Qv ∧ Qv ≤ 99) : e_w (28 * P) = 28 * P ∧ e_w (28 * P + 3) = 28 * P + 3 ∧ e_w (28 * P + 3 + I) = 28 * P + 3 + I ∧ e_w (28 * P + 11) = 28 * P + 11 ∧ e_w (28 * P + 11 + I) = 28 * P + 11 + I ∧ e_w (28 * P + 20) = 28 * P + 20 ∧ e_w (28 * P + 20 + I) = 28 * P + 20 + I ∧ e_w (28 * Qv) = 28 * Qv ∧ e_w (28 * Qv + 1) = 28 * Qv + 1 ∧ e_w (I + 1) = I + 1 ∧ e_w (P + 1) = P + 1 := by
  refine ⟨?_, ?_, ?_, ?_, ?_, ?_, ?_, ?_, ?_, ?_, ?_⟩ <;> exact a_w_id (by omega) (by omega)
