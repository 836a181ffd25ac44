theorem r_copy_loop {d i e j n : Int} (hd : 0 ≤ d ∧ d ≤ 7) (he : 0 ≤ e ∧ e ≤ 7) (hi : 0 ≤ i ∧ i + n ≤ 120) (hj : 0 ≤ j ∧ j + n ≤ 120) (hn : 0 ≤ n) : ∀ (m : Nat) (q y : Int) (M : EM), a_M M → (n - q).toNat ≤ m → 0 ≤ q → q ≤ n → ∃ M', E_V 262 122 [192, d, i, e, j, n, q, y] M = some (n, M') ∧ a_M M' ∧ a_fr [(198, 0, 959)] M M' := by
  have g5 : ∀ M, e_gf 773 [192] M = some 198 := fun M => r_g 773 198 M (by decide +kernel)
  have hend : ∀ (q y : Int) (M : EM), a_M M → ¬ (q < n) → ∃ M', E_V 262 122 [192, d, i, e, j, n, q, y] M = some (n, M') ∧ a_M M' ∧ a_fr [(198, 0, 959)] M M' := by
    intro q y M hM hlt
    refine ⟨M, ?_, hM, a_fr_rf⟩
    rw [E_V_eq]
    show e_tv E_C (E_V 262) e_t262_122 [192, d, i, e, j, n, q, y] M = _
    unfold e_t262_122
    simp [e_tv, e_ev, e_sv, e_b2, x_o2, hlt]
  intro m
  induction m with
  | zero => intro q y M hM hm h0 h1; exact hend q y M hM (by omega)
  | succ m ih =>
    intro q y M hM hm h0 h1
    by_cases hlt : q < n
    · have w1 : e_w (q + 1) = q + 1 := a_w_id (by omega) (by omega)
      have w2 : e_w (120 * d) = 120 * d := a_w_id (by omega) (by omega)
      have w3 : e_w (120 * e) = 120 * e := a_w_id (by omega) (by omega)
      have w4 : e_w (120 * d + i) = 120 * d + i := a_w_id (by omega) (by omega)
      have w5 : e_w (120 * e + j) = 120 * e + j := a_w_id (by omega) (by omega)
      have w6 : e_w (n - 1) = n - 1 := a_w_id (by omega) (by omega)
      have w7 : e_w (n - 1 - q) = n - 1 - q := a_w_id (by omega) (by omega)
      have hone : ∀ z, 0 ≤ z → z < n → ∃ M1, e_w (120 * d + i + z) = 120 * d + i + z ∧ e_w (120 * e + j + z) = 120 * e + j + z ∧ e_op 60 [198, 120 * d + i + z] M = some (M 198 (120 * d + i + z).toNat) ∧ e_st 100 [198, 120 * e + j + z, M 198 (120 * d + i + z).toNat] M = some M1 ∧ a_M M1 ∧ a_fr [(198, 0, 959)] M M1 := by
        intro z z0 z1
        refine ⟨_, a_w_id (by omega) (by omega), a_w_id (by omega) (by omega), r_ld (n := 960) (by decide) (by decide +kernel) (by decide +kernel) (by omega) (by omega), r_st (n := 960) (by decide) (by decide +kernel) (by decide +kernel) (by omega) (by omega), r_up (by decide) (by decide +kernel) (by decide +kernel) (c_M32 hM (by decide) (by decide +kernel)) hM, fun b k hw => c_up_n (fun hc => hw _ List.mem_cons_self ⟨hc.1.symm, Nat.zero_le _, ?_⟩)⟩
        have := hc.2
        show k ≤ 959
        omega
      by_cases hc : j < i
      · obtain ⟨M1, u1, u2, u3, u4, u5, u6⟩ := hone q h0 hlt
        obtain ⟨M2, k1, k2, k3⟩ := ih (q + 1) q M1 u5 (by omega) (by omega) (by omega)
        refine ⟨M2, ?_, k2, a_fr_tr u6 k3⟩
        rw [E_V_eq]
        show e_tv E_C (E_V 262) e_t262_122 [192, d, i, e, j, n, q, y] M = _
        unfold e_t262_122
        simp [e_tv, e_ev, e_sv, e_b2, x_o2, hlt, hc, g5, w1, w2, w3, w4, w5, u1, u2, u3, u4, k1]
      · obtain ⟨M1, u1, u2, u3, u4, u5, u6⟩ := hone (n - 1 - q) (by omega) (by omega)
        obtain ⟨M2, k1, k2, k3⟩ := ih (q + 1) (n - 1 - q) M1 u5 (by omega) (by omega) (by omega)
        refine ⟨M2, ?_, k2, a_fr_tr u6 k3⟩
        rw [E_V_eq]
        show e_tv E_C (E_V 262) e_t262_122 [192, d, i, e, j, n, q, y] M = _
        unfold e_t262_122
        simp [e_tv, e_ev, e_sv, e_b2, x_o2, hlt, hc, g5, w1, w2, w3, w4, w5, w6, w7, u1, u2, u3, u4, k1]
    · exact hend q y M hM hlt
theorem r_copy {d i e j n : Int} {M : EM} (hM : a_M M) (hI : r_I M) (hn : -2147483648 ≤ n ∧ n ≤ 2147483647) (hi : -2147483648 ≤ i ∧ i ≤ 2147483647) (hj : -2147483648 ≤ j ∧ j ≤ 2147483647) : ∃ r M', E_C 262 [192, d, i, e, j, n] M = some (r, M') ∧ a_M M' ∧ a_fr [(198, 0, 959)] M M' := by
  have h1 : E_C 262 [192, d, i, e, j, n] M = e_tv E_C (E_V 262) e_t262_0 [192, d, i, e, j, n, 0, 0] M := by
    unfold E_C
    rw [if_pos (show e_rok 262 [192, d, i, e, j, n] = true from decide_eq_true r_ref), E_V_eq]
    rfl
  have g2 : ∀ M, e_gf 770 [192] M = some 195 := fun M => r_g 770 195 M (by decide +kernel)
  have g3 : ∀ M, e_gf 771 [192] M = some 196 := fun M => r_g 771 196 M (by decide +kernel)
  have g4 : ∀ M, e_gf 772 [192] M = some 197 := fun M => r_g 772 197 M (by decide +kernel)
  rw [h1]
  unfold e_t262_0
  by_cases q0 : 0 ≤ d ∧ d ≤ 7
  · by_cases q1 : 0 ≤ e ∧ e ≤ 7
    · obtain ⟨l1, l2, l3, -, -, -⟩ := r_isD d M q0
      obtain ⟨m1, m2, m3, -, -, -⟩ := r_isD e M q1
      have hz := hI d.toNat (by omega)
      have hz' := hI e.toNat (by omega)
      by_cases a1 : M 195 d.toNat = 0
      · exact ⟨-11, M, by simp [e_tv, e_ev, e_b1, e_b2, x_o1, x_o2, r_isShelf, q0, q1, g2, l1, m1, a1], hM, a_fr_rf⟩
      by_cases a2 : M 195 e.toNat = 0
      · exact ⟨-11, M, by simp [e_tv, e_ev, e_b1, e_b2, x_o1, x_o2, r_isShelf, q0, q1, g2, l1, m1, a1, a2], hM, a_fr_rf⟩
      by_cases a3 : M 195 d.toNat = 2
      · by_cases a4 : M 195 e.toNat = 2
        · by_cases a5 : M 196 d.toNat = M 196 e.toNat
          · skip
            by_cases c1 : 0 ≤ n
            · by_cases c2 : 0 ≤ i
              · by_cases c3 : 0 ≤ j
                · have v1 : e_w (M 197 d.toNat - i) = M 197 d.toNat - i := a_w_id (by omega) (by omega)
                  have v2 : e_w (M 197 e.toNat - j) = M 197 e.toNat - j := a_w_id (by omega) (by omega)
                  have d1 : ¬ (n < 0) := by omega
                  have d2 : ¬ (i < 0) := by omega
                  have d3 : ¬ (j < 0) := by omega
                  by_cases c4 : n ≤ M 197 d.toNat - i
                  · by_cases c5 : M 197 e.toNat - j < n
                    · exact ⟨-13, M, by simp [e_tv, e_ev, e_b1, e_b2, x_o1, x_o2, r_isShelf, q0, q1, g2, g3, g4, l1, m1, l2, m2, l3, m3, a3, a4, a5, c1, c2, c3, d1, d2, d3, v1, v2, c4, c5], hM, a_fr_rf⟩
                    · obtain ⟨M', k1, k2, k3⟩ := r_copy_loop (i := i) (j := j) q0 q1 ⟨c2, by omega⟩ ⟨c3, by omega⟩ c1 n.toNat 0 0 M hM (by omega) (by decide) c1
                      have d4 : ¬ (M 197 d.toNat - i < n) := by omega
                      exact ⟨n, M', by simp [e_tv, e_ev, e_sv, e_b1, e_b2, x_o1, x_o2, r_isShelf, q0, q1, g2, g3, g4, l1, m1, l2, m2, l3, m3, a3, a4, a5, c1, c2, c3, d1, d2, d3, v1, v2, c4, c5, d4, k1], k2, k3⟩
                  · have d4 : M 197 d.toNat - i < n := by omega
                    exact ⟨-13, M, by simp [e_tv, e_ev, e_b1, e_b2, x_o1, x_o2, r_isShelf, q0, q1, g2, g3, g4, l1, m1, l2, m2, l3, m3, a3, a4, a5, c1, c2, c3, d1, d2, d3, v1, v2, c4, d4], hM, a_fr_rf⟩
                · have d3 : j < 0 := by omega
                  have d1 : ¬ (n < 0) := by omega
                  have d2 : ¬ (i < 0) := by omega
                  exact ⟨-13, M, by simp [e_tv, e_ev, e_b1, e_b2, x_o1, x_o2, r_isShelf, q0, q1, g2, g3, g4, l1, m1, l2, m2, a3, a4, a5, c1, c2, c3, d1, d2, d3], hM, a_fr_rf⟩
              · have d2 : i < 0 := by omega
                have d1 : ¬ (n < 0) := by omega
                exact ⟨-13, M, by simp [e_tv, e_ev, e_b1, e_b2, x_o1, x_o2, r_isShelf, q0, q1, g2, g3, g4, l1, m1, l2, m2, a3, a4, a5, c1, c2, d1, d2], hM, a_fr_rf⟩
            · have d1 : n < 0 := by omega
              exact ⟨-13, M, by simp [e_tv, e_ev, e_b1, e_b2, x_o1, x_o2, r_isShelf, q0, q1, g2, g3, g4, l1, m1, l2, m2, a3, a4, a5, c1, d1], hM, a_fr_rf⟩
          · exact ⟨-12, M, by simp [e_tv, e_ev, e_b1, e_b2, x_o1, x_o2, r_isShelf, q0, q1, g2, g3, l1, m1, l2, m2, a3, a4, a5], hM, a_fr_rf⟩
        · exact ⟨-12, M, by simp [e_tv, e_ev, e_b1, e_b2, x_o1, x_o2, r_isShelf, q0, q1, g2, g3, l1, m1, a2, a3, a4], hM, a_fr_rf⟩
      · exact ⟨-12, M, by simp [e_tv, e_ev, e_b1, e_b2, x_o1, x_o2, r_isShelf, q0, q1, g2, g3, l1, m1, a1, a2, a3], hM, a_fr_rf⟩
    · exact ⟨-1, M, by simp [e_tv, e_ev, e_b1, e_b2, x_o1, x_o2, r_isShelf, q0, q1], hM, a_fr_rf⟩
  · exact ⟨-1, M, by simp [e_tv, e_ev, e_b1, e_b2, x_o1, x_o2, r_isShelf, q0], hM, a_fr_rf⟩
