theorem r_count_a {w : Int} {M : EM} (hN : r_N M) : ∀ (m : Nat) (c i : Int), (M 193 1198 - i).toNat ≤ m → 0 ≤ i → i ≤ M 193 1198 → ∃ r, E_V 257 63 [192, w, c, i] M = some (r, M) := by
  have l : e_op 60 [193, 1198] M = some (M 193 1198) := r_s (by decide) (by decide)
  have hN' := hN
  obtain ⟨n1, n2⟩ := hN'
  have hend : ∀ (c i : Int), ¬ (i < M 193 1198) → ∃ r, E_V 257 63 [192, w, c, i] M = some (r, M) := by
    intro c i hlt
    refine ⟨c, ?_⟩
    rw [E_V_eq]
    show e_tv E_C (E_V 257) e_t257_63 [192, w, c, i] M = _
    unfold e_t257_63
    simp [e_tv, e_ev, e_sv, e_b2, x_o2, r_g0, l, hlt]
  intro m
  induction m with
  | zero => intro c i hm h0 h1; exact hend c i (by omega)
  | succ m ih =>
    intro c i hm h0 h1
    by_cases hlt : i < M 193 1198
    · have w1 : e_w (i + 1) = i + 1 := a_w_id (by omega) (by omega)
      have hk := r_kind (p := i) (M := M) ⟨h0, by omega⟩
      by_cases hc : M 193 (28 * i).toNat = e_w (w - 1)
      · obtain ⟨r, k1⟩ := ih (e_w (c + 1)) (i + 1) (by omega) (by omega) (by omega)
        refine ⟨r, ?_⟩
        rw [E_V_eq]
        show e_tv E_C (E_V 257) e_t257_63 [192, w, c, i] M = _
        unfold e_t257_63
        simp [e_tv, e_ev, e_sv, e_b2, x_o2, r_g0, l, hlt, hk, hc, w1, k1]
      · obtain ⟨r, k1⟩ := ih (e_w (c + 0)) (i + 1) (by omega) (by omega) (by omega)
        refine ⟨r, ?_⟩
        rw [E_V_eq]
        show e_tv E_C (E_V 257) e_t257_63 [192, w, c, i] M = _
        unfold e_t257_63
        rw [Int.add_zero] at k1
        simp [e_tv, e_ev, e_sv, e_b2, x_o2, r_g0, l, hlt, hk, hc, w1, k1]
    · exact hend c i hlt
