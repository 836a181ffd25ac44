/-- the numbers told make a CURVE of m + 1 points -/
def y_cn (X : Nat → Int) (f m : Nat) : Prop := X f = 0 ∧ X (f + 2 * m) ≤ 60 ∧ X (f + 2 * m + 1) = 0 ∧ ∀ j, j < m → X (f + 2 * j) < X (f + 2 * (j + 1)) ∧ X (f + 2 * (j + 1) + 1) < X (f + 2 * j + 1)
theorem y_c101e {P I x3 x4 x5 c ia : Int} {na : Nat} {M M2 : EM} (ks : E_C 177 [192] M = some (c, M)) (hc : c ≠ 32) (v1 : e_w (28 * P) = 28 * P) (v2 : e_w (28 * P + 2) = ia) (s1 : ∀ v, e_st 100 [193, ia, v] M = some (e_up M 193 na v)) (hM2 : e_up M 193 na I = M2) (h : x3 = 0 ∨ ¬ 1 < I) : E_V 184 101 [192, P, I, x3, x4, x5] M = E_V 184 184 [192, P, I, 0, 1, x5] M2 := by
  by_cases c0 : x3 = 0
  · subst c0
    rw [E_V_eq]
    show e_tv E_C (E_V 184) e_t184_101 [192, P, I, 0, x4, x5] M = _
    unfold e_t184_101
    simp [e_tv, e_ev, e_sv, e_b1, e_b2, x_o1, x_o2, r_O0, ks, hc, v1, v2, s1, hM2]
  · have c1 : ¬ 1 < I := h.resolve_left c0
    rw [E_V_eq]
    show e_tv E_C (E_V 184) e_t184_101 [192, P, I, x3, x4, x5] M = _
    unfold e_t184_101
    simp [e_tv, e_ev, e_sv, e_b1, e_b2, x_o1, x_o2, r_O0, ks, hc, v1, v2, s1, hM2, c0, c1]
theorem y_c101y {P I x4 x5 c ia A B C t : Int} {na : Nat} {M M2 : EM} (ks : E_C 177 [192] M = some (c, M)) (hc : c ≠ 32) (v1 : e_w (28 * P) = 28 * P) (v2 : e_w (28 * P + 2) = ia) (s1 : ∀ v, e_st 100 [193, ia, v] M = some (e_up M 193 na v)) (hM2 : e_up M 193 na I = M2) (hI : 1 < I) (w3 : e_w (28 * P + 8) = 28 * P + 8) (w4 : e_w (28 * P + 8 + I) = 28 * P + 8 + I) (w5 : e_w (ia + I) = 28 * P + 2 + I) (ko : E_C 172 [192, P, 0] M2 = some (A, M2)) (l1 : e_op 60 [193, 28 * P + 8 + I] M2 = some B) (l2 : e_op 60 [193, 28 * P + 2 + I] M2 = some C) (ht : t = if A = 0 ∧ B = 0 ∧ C ≤ 60 then 1 else 0) : E_V 184 101 [192, P, I, 1, x4, x5] M = E_V 184 184 [192, P, I, t, 1, x5] M2 := by
  by_cases c2 : A = 0
  · by_cases c3 : B = 0
    · rcases x_le C 60 with ⟨c4, c4_n⟩ | ⟨c4, c4_n⟩
      · rw [if_pos ⟨c2, c3, c4⟩] at ht
        subst ht
        rw [E_V_eq]
        show e_tv E_C (E_V 184) e_t184_101 [192, P, I, 1, x4, x5] M = _
        unfold e_t184_101
        simp [e_tv, e_ev, e_sv, e_b1, e_b2, x_o1, x_o2, r_O0, ks, hc, v1, v2, s1, hM2, hI, w3, w4, w5, ko, l1, l2, c2, c3, c4, c4_n]
      · rw [if_neg (fun e => c4 e.2.2)] at ht
        subst ht
        rw [E_V_eq]
        show e_tv E_C (E_V 184) e_t184_101 [192, P, I, 1, x4, x5] M = _
        unfold e_t184_101
        simp [e_tv, e_ev, e_sv, e_b1, e_b2, x_o1, x_o2, r_O0, ks, hc, v1, v2, s1, hM2, hI, w3, w4, w5, ko, l1, l2, c2, c3, c4, c4_n]
    · rw [if_neg (fun e => c3 e.2.1)] at ht
      subst ht
      rw [E_V_eq]
      show e_tv E_C (E_V 184) e_t184_101 [192, P, I, 1, x4, x5] M = _
      unfold e_t184_101
      simp [e_tv, e_ev, e_sv, e_b1, e_b2, x_o1, x_o2, r_O0, ks, hc, v1, v2, s1, hM2, hI, w3, w4, w5, ko, l1, l2, c2, c3]
  · rw [if_neg (fun e => c2 e.1)] at ht
    subst ht
    rw [E_V_eq]
    show e_tv E_C (E_V 184) e_t184_101 [192, P, I, 1, x4, x5] M = _
    unfold e_t184_101
    simp [e_tv, e_ev, e_sv, e_b1, e_b2, x_o1, x_o2, r_O0, ks, hc, v1, v2, s1, hM2, hI, w3, w4, w5, ko, l1, l2, c2]

