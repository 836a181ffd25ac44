theorem r_count_b {w : Int} {M : EM} (hN : r_N M) : ∀ (m : Nat) (c i : Int), (M 193 1198 - i).toNat ≤ m → 0 ≤ i → i ≤ M 193 1198 → ∃ r, E_V 257 104 [192, w, c, i] M = some (r, M) := by
  have l : e_op 60 [193, 1198] M = some (M 193 1198) := r_s (by decide) (by decide)
  have hN' := hN
  obtain ⟨n1, n2⟩ := hN'
  have b46 : ∀ a, e_b1 46 a = some (if a = 0 then 1 else 0) := fun _ => rfl
  have hend : ∀ (c i : Int), ¬ (i < M 193 1198) → ∃ r, E_V 257 104 [192, w, c, i] M = some (r, M) := by
    intro c i hlt
    refine ⟨c, ?_⟩
    rw [E_V_eq]
    show e_tv E_C (E_V 257) e_t257_104 [192, w, c, i] M = _
    unfold e_t257_104
    simp [e_tv, e_ev, e_sv, e_b2, x_o2, r_g0, l, hlt]
  intro m
  induction m with
  | zero => intro c i hm h0 h1; exact hend c i (by omega)
  | succ m ih =>
    intro c i hm h0 h1
    by_cases hlt : i < M 193 1198
    · have w1 : e_w (i + 1) = i + 1 := a_w_id (by omega) (by omega)
      have w2 : e_w (28 * i) = 28 * i := a_w_id (by omega) (by omega)
      have w3 : e_w (28 * i + 19) = 28 * i + 19 := a_w_id (by omega) (by omega)
      have hk := r_kind (p := i) (M := M) ⟨h0, by omega⟩
      have l2 : e_op 60 [193, 28 * i + 19] M = some (M 193 (28 * i + 19).toNat) := r_s (by omega) (by omega)
      obtain ⟨r, k1⟩ := ih (e_w (c + 1)) (i + 1) (by omega) (by omega) (by omega)
      obtain ⟨r', k2⟩ := ih (e_w (c + 0)) (i + 1) (by omega) (by omega) (by omega)
      rw [Int.add_zero] at k2
      by_cases hc : M 193 (28 * i).toNat = 0
      · by_cases hd : M 193 (28 * i + 19).toNat = 1
        · refine ⟨r, ?_⟩
          rw [E_V_eq]
          show e_tv E_C (E_V 257) e_t257_104 [192, w, c, i] M = _
          unfold e_t257_104
          simp [e_tv, e_ev, e_sv, b46, e_b2, x_o1, x_o2, r_g0, l, l2, hlt, hk, hc, hd, w1, w2, w3, k1]
        · refine ⟨r', ?_⟩
          rw [E_V_eq]
          show e_tv E_C (E_V 257) e_t257_104 [192, w, c, i] M = _
          unfold e_t257_104
          simp [e_tv, e_ev, e_sv, b46, e_b2, x_o1, x_o2, r_g0, l, l2, hlt, hk, hc, hd, w1, w2, w3, k2]
      · refine ⟨r', ?_⟩
        rw [E_V_eq]
        show e_tv E_C (E_V 257) e_t257_104 [192, w, c, i] M = _
        unfold e_t257_104
        simp [e_tv, e_ev, e_sv, b46, e_b2, x_o1, x_o2, r_g0, l, l2, hlt, hk, hc, w1, w2, w3, k2]
    · exact hend c i hlt
theorem r_count_c {w : Int} {M : EM} : ∀ (m : Nat) (c i : Int), (10 - i).toNat ≤ m → 0 ≤ i → i ≤ 10 → ∃ r, E_V 257 158 [192, w, c, i] M = some (r, M) := by
  have b50 : ∀ a, e_b1 50 a = some (if 0 < a then 1 else 0) := fun _ => rfl
  have hend : ∀ (c i : Int), ¬ (i < 10) → ∃ r, E_V 257 158 [192, w, c, i] M = some (r, M) := by
    intro c i hlt
    refine ⟨c, ?_⟩
    rw [E_V_eq]
    show e_tv E_C (E_V 257) e_t257_158 [192, w, c, i] M = _
    unfold e_t257_158
    simp [e_tv, e_ev, e_sv, e_b2, x_o2, hlt]
  intro m
  induction m with
  | zero => intro c i hm h0 h1; exact hend c i (by omega)
  | succ m ih =>
    intro c i hm h0 h1
    by_cases hlt : i < 10
    · have w1 : e_w (i + 1) = i + 1 := a_w_id (by omega) (by omega)
      have w2 : e_w (3 * i) = 3 * i := a_w_id (by omega) (by omega)
      have w3 : e_w (1120 + 3 * i) = 1120 + 3 * i := a_w_id (by omega) (by omega)
      have w4 : e_w (1120 + 3 * i + 2) = 1120 + 3 * i + 2 := a_w_id (by omega) (by omega)
      have l2 : e_op 60 [193, 1120 + 3 * i + 2] M = some (M 193 (1120 + 3 * i + 2).toNat) := r_s (by omega) (by omega)
      obtain ⟨r, k1⟩ := ih (e_w (c + 1)) (i + 1) (by omega) (by omega) (by omega)
      obtain ⟨r', k2⟩ := ih (e_w (c + 0)) (i + 1) (by omega) (by omega) (by omega)
      rw [Int.add_zero] at k2
      generalize M 193 (1120 + 3 * i + 2).toNat = x at l2
      by_cases hc : 0 < x
      · refine ⟨r, ?_⟩
        rw [E_V_eq]
        show e_tv E_C (E_V 257) e_t257_158 [192, w, c, i] M = _
        unfold e_t257_158
        simp [e_tv, e_ev, e_sv, b50, e_b2, x_o1, x_o2, r_g0, l2, hlt, hc, w1, w2, w3, w4, k1]
      · have hc' : x ≤ 0 := by omega
        refine ⟨r', ?_⟩
        rw [E_V_eq]
        show e_tv E_C (E_V 257) e_t257_158 [192, w, c, i] M = _
        unfold e_t257_158
        simp [e_tv, e_ev, e_sv, b50, e_b2, x_o1, x_o2, r_g0, l2, hlt, hc, hc', w1, w2, w3, w4, k2]
    · exact hend c i hlt
