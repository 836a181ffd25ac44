/-! the reference's row s: COUNT at 1198, a part p from 28 p on (kind, what it stands in, how many members, members) -/
def r_N (M : EM) : Prop := 0 ≤ M 193 1198 ∧ M 193 1198 ≤ 40
theorem r_s {i : Int} {M : EM} (h0 : 0 ≤ i) (hi : i < 1330) : e_op 60 [193, i] M = some (M 193 i.toNat) := r_ld (n := 1330) (by decide) (by decide +kernel) (by decide +kernel) h0 hi
theorem r_g0 (M : EM) : e_gf 768 [192] M = some 193 := r_g 768 193 M (by decide +kernel)
theorem r_isPart {p : Int} {M : EM} (hN : r_N M) : E_C 169 [192, p] M = some (if 0 ≤ p ∧ p < M 193 1198 then 1 else 0, M) := by
  have h1 : E_C 169 [192, p] M = e_tv E_C (E_V 169) e_t169_0 [192, p] M := by
    unfold E_C
    rw [if_pos (show e_rok 169 [192, p] = true from decide_eq_true r_ref), E_V_eq]
    rfl
  obtain ⟨n1, n2⟩ := hN
  have w : e_w (M 193 1198 - 1) = M 193 1198 - 1 := a_w_id (by omega) (by omega)
  have l : e_op 60 [193, 1198] M = some (M 193 1198) := r_s (by decide) (by decide)
  rw [h1]
  unfold e_t169_0
  by_cases q0 : 0 ≤ p
  · by_cases q1 : p < M 193 1198
    · have q2 : p ≤ M 193 1198 - 1 := by omega
      simp [e_tv, e_ev, e_b1, e_b2, x_o1, x_o2, r_g0, l, w, r_isIn, q0, q1, q2]
    · have q2 : ¬ (p ≤ M 193 1198 - 1) := by omega
      simp [e_tv, e_ev, e_b1, e_b2, x_o1, x_o2, r_g0, l, w, r_isIn, q0, q1, q2]
  · simp [e_tv, e_ev, e_b1, e_b2, x_o1, x_o2, r_g0, l, w, r_isIn, q0]
theorem r_kind {p : Int} {M : EM} (hp : 0 ≤ p ∧ p < 40) : E_C 170 [192, p] M = some (M 193 (28 * p).toNat, M) := by
  have h1 : E_C 170 [192, p] M = e_tv E_C (E_V 170) e_t170_0 [192, p] M := by
    unfold E_C
    rw [if_pos (show e_rok 170 [192, p] = true from decide_eq_true r_ref), E_V_eq]
    rfl
  have w : e_w (28 * p) = 28 * p := a_w_id (by omega) (by omega)
  have l : e_op 60 [193, 28 * p] M = some (M 193 (28 * p).toNat) := r_s (by omega) (by omega)
  rw [h1]
  unfold e_t170_0
  simp [e_tv, e_ev, e_b2, x_o2, r_g0, w, l]
theorem r_many {p : Int} {M : EM} (hp : 0 ≤ p ∧ p < 40) : E_C 171 [192, p] M = some (M 193 (28 * p + 2).toNat, M) := by
  have h1 : E_C 171 [192, p] M = e_tv E_C (E_V 171) e_t171_0 [192, p] M := by
    unfold E_C
    rw [if_pos (show e_rok 171 [192, p] = true from decide_eq_true r_ref), E_V_eq]
    rfl
  have w : e_w (28 * p) = 28 * p := a_w_id (by omega) (by omega)
  have w2 : e_w (28 * p + 2) = 28 * p + 2 := a_w_id (by omega) (by omega)
  have l : e_op 60 [193, 28 * p + 2] M = some (M 193 (28 * p + 2).toNat) := r_s (by omega) (by omega)
  rw [h1]
  unfold e_t171_0
  simp [e_tv, e_ev, e_b2, x_o2, r_g0, w, w2, l]
theorem r_of {p k : Int} {M : EM} (hp : 0 ≤ p ∧ p < 40) (hk : 0 ≤ k ∧ k < 200) : E_C 172 [192, p, k] M = some (M 193 (28 * p + 3 + k).toNat, M) := by
  have h1 : E_C 172 [192, p, k] M = e_tv E_C (E_V 172) e_t172_0 [192, p, k] M := by
    unfold E_C
    rw [if_pos (show e_rok 172 [192, p, k] = true from decide_eq_true r_ref), E_V_eq]
    rfl
  have w : e_w (28 * p) = 28 * p := a_w_id (by omega) (by omega)
  have w2 : e_w (28 * p + 3) = 28 * p + 3 := a_w_id (by omega) (by omega)
  have w3 : e_w (28 * p + 3 + k) = 28 * p + 3 + k := a_w_id (by omega) (by omega)
  have l : e_op 60 [193, 28 * p + 3 + k] M = some (M 193 (28 * p + 3 + k).toNat) := r_s (by omega) (by omega)
  rw [h1]
  unfold e_t172_0
  simp [e_tv, e_ev, e_b2, x_o2, r_g0, w, w2, w3, l]
