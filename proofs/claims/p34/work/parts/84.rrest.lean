theorem r_restore_loop : ∀ (m : Nat) (i : Nat) (M : EM), 1330 - i ≤ m → i ≤ 1330 → E_V 256 12 [192, (i : Int)] M = some (r_cp M 194 193 i 193 1198, r_cp M 194 193 i) := by
  have g0 : ∀ M, e_gf 768 [192] M = some 193 := fun M => r_g 768 193 M (by decide +kernel)
  have g1 : ∀ M, e_gf 769 [192] M = some 194 := fun M => r_g 769 194 M (by decide +kernel)
  have l0 : ∀ M, e_op 60 [193, 1198] M = some (M 193 1198) := fun M => r_ld (n := 1330) (by decide) (by decide +kernel) (by decide +kernel) (by decide) (by decide)
  have hend : ∀ (i : Nat) (M : EM), ¬ (i < 1330) → E_V 256 12 [192, (i : Int)] M = some (r_cp M 194 193 i 193 1198, r_cp M 194 193 i) := by
    intro i M hlt
    have hlt' : ¬ ((i : Int) < 1330) := by omega
    rw [r_cp_end M 194 193 i (by omega), E_V_eq]
    show e_tv E_C (E_V 256) e_t256_12 [192, (i : Int)] M = _
    unfold e_t256_12
    simp [e_tv, e_ev, e_sv, e_b2, x_o2, g0, hlt', l0]
  intro m
  induction m with
  | zero => intro i M hm h1; exact hend i M (by omega)
  | succ m ih =>
    intro i M hm h1
    by_cases hlt : i < 1330
    · have hlt' : (i : Int) < 1330 := by omega
      have w1 : e_w ((i : Int) + 1) = ((i + 1 : Nat) : Int) := by rw [a_w_id (by omega) (by omega)]; omega
      have ld : e_op 60 [194, (i : Int)] M = some (M 194 i) := r_ld (n := 1330) (by decide) (by decide +kernel) (by decide +kernel) (by omega) (by omega)
      have st : e_st 100 [193, (i : Int), M 194 i] M = some (e_up M 193 i (M 194 i)) := r_st (n := 1330) (by decide) (by decide +kernel) (by decide +kernel) (by omega) (by omega)
      have hrec := ih (i + 1) (e_up M 193 i (M 194 i)) (by omega) (by omega)
      rw [r_cp_step M 194 193 i hlt (by decide)] at hrec
      rw [← hrec, E_V_eq]
      show e_tv E_C (E_V 256) e_t256_12 [192, (i : Int)] M = _
      unfold e_t256_12
      simp only [e_tv, e_ev, e_sv]
      simp [e_b2, x_o2, g0, g1, hlt', ld, st, w1]
    · exact hend i M hlt
theorem r_image (M : EM) : E_C 255 [192] M = some (M 193 1198, e_up (r_cp M 193 194 0) 192 9 1) := by
  have h1 : E_C 255 [192] M = e_tv E_C (E_V 255) e_t255_0 [192, 0] M := by
    unfold E_C
    rw [if_pos (show e_rok 255 [192] = true from decide_eq_true r_ref), E_V_eq]
    rfl
  have h2 := r_image_loop 1330 0 M (by decide) (by decide)
  rw [h1]
  unfold e_t255_0
  simp only [e_tv, e_ev, e_sv]
  simpa using h2
theorem r_restore (M : EM) : E_C 256 [192] M = (if M 192 9 = 0 then some (-3, M) else some (r_cp M 194 193 0 193 1198, r_cp M 194 193 0)) := by
  have h1 : E_C 256 [192] M = e_tv E_C (E_V 256) e_t256_0 [192, 0] M := by
    unfold E_C
    rw [if_pos (show e_rok 256 [192] = true from decide_eq_true r_ref), E_V_eq]
    rfl
  have g9 : ∀ M, e_gf 777 [192] M = some (M 192 9) := fun M => c_gf r_ref (by decide +kernel)
  have b46 : ∀ a, e_b1 46 a = some (if a = 0 then 1 else 0) := fun _ => rfl
  have h2 := r_restore_loop 1330 0 M (by decide) (by decide)
  rw [h1]
  unfold e_t256_0
  by_cases q : M 192 9 = 0
  · rw [if_pos q]
    simp [e_tv, e_ev, e_op, e_b1, g9, q]
  · rw [if_neg q, ← h2]
    simp [e_tv, e_ev, e_sv, e_op, e_b1, g9, q]
