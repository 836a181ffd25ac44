/-! PUSH of GROUPS and ROWS, CURRENTS, by the reference -/
theorem r_lo_p {g : Int → Int} {b x : Int} (hb : b ≤ 40) (hx : r_cl g b x ∨ r_rw g b x) : 0 ≤ x ∧ x < 40 := by
  rcases hx with h | h
  · exact ⟨h.1, by have := h.2.1; omega⟩
  · exact ⟨h.1, by have := h.2.1; omega⟩
theorem r_group_loop {p g c : Int} {M : EM} (hE : r_E M) (hp : 0 ≤ p ∧ p < 40) (hn : r_G M (28 * p + 2) ≤ 8) (hm : ∀ k, 0 ≤ k → k < r_G M (28 * p + 2) → r_cl (r_G M) p (r_G M (28 * p + 3 + k))) : ∀ (m : Nat) (x4 x5 : Int), (8 - x5).toNat ≤ m → 0 ≤ x5 → (-2147483648 ≤ x4 ∧ x4 ≤ 2147483647) → ∃ r, E_V 199 6 [192, p, g, c, x4, x5] M = some (r, M) ∧ -2147483648 ≤ r ∧ r ≤ 2147483647 := by
  have km : E_C 171 [192, p] M = some (r_G M (28 * p + 2), M) := r_many hp
  have hend : ∀ x4 x5, ¬ (x5 < r_G M (28 * p + 2)) → (-2147483648 ≤ x4 ∧ x4 ≤ 2147483647) → ∃ r, E_V 199 6 [192, p, g, c, x4, x5] M = some (r, M) ∧ -2147483648 ≤ r ∧ r ≤ 2147483647 := by
    intro x4 x5 q h4
    refine ⟨x4, ?_, h4⟩
    rw [E_V_eq]
    show e_tv E_C (E_V 199) e_t199_6 [192, p, g, c, x4, x5] M = _
    unfold e_t199_6
    simp [e_tv, e_ev, e_sv, e_b1, e_b2, x_o1, x_o2, q, km]
  intro m
  induction m with
  | zero => intro x4 x5 h5 h0 h4; exact hend x4 x5 (by omega) h4
  | succ m ih =>
    intro x4 x5 h5 h0 h4
    rcases x_lt x5 (r_G M (28 * p + 2)) with ⟨q, q_n⟩ | ⟨q, q_n⟩
    · have w1 : e_w (28 * p) = 28 * p := a_w_id (by omega) (by omega)
      have w2 : e_w (28 * p + 11) = 28 * p + 11 := a_w_id (by omega) (by omega)
      have w3 : e_w (28 * p + 11 + x5) = 28 * p + 11 + x5 := a_w_id (by omega) (by omega)
      have w4 : e_w (x5 + 1) = x5 + 1 := a_w_id (by omega) (by omega)
      have l1 : e_op 60 [193, 28 * p + 11 + x5] M = some (r_G M (28 * p + 11 + x5)) := r_rd (by omega) (by omega)
      have ko : E_C 172 [192, p, x5] M = some (r_G M (28 * p + 3 + x5), M) := r_of hp ⟨h0, by omega⟩
      obtain ⟨m1, m2, m3, m4, m5, m6⟩ := hm x5 h0 q
      have hy : 0 ≤ r_G M (28 * p + 3 + x5) ∧ r_G M (28 * p + 3 + x5) < 40 := ⟨m1, by omega⟩
      obtain ⟨s, ks, hs⟩ := r_share hE hy m6
      obtain ⟨v, kv, hv⟩ := r_cellPush (c := c) (sh := s) (M := M) hy ⟨m4, m5⟩
      by_cases c1 : r_G M (28 * p + 11 + x5) = g
      · obtain ⟨r, k, hr⟩ := ih (e_w (x4 + v)) (x5 + 1) (by omega) (by omega) (a_w _)
        refine ⟨r, ?_, hr⟩
        rw [E_V_eq]
        show e_tv E_C (E_V 199) e_t199_6 [192, p, g, c, x4, x5] M = _
        unfold e_t199_6
        simp [e_tv, e_ev, e_sv, e_b1, e_b2, x_o1, x_o2, r_O0, q, q_n, km, w1, w2, w3, w4, l1, ko, ks, kv, c1, k]
      · obtain ⟨r, k, hr⟩ := ih (e_w (x4 + 0)) (x5 + 1) (by omega) (by omega) (a_w _)
        refine ⟨r, ?_, hr⟩
        rw [Int.add_zero] at k
        rw [E_V_eq]
        show e_tv E_C (E_V 199) e_t199_6 [192, p, g, c, x4, x5] M = _
        unfold e_t199_6
        simp [e_tv, e_ev, e_sv, e_b1, e_b2, x_o1, x_o2, r_O0, q, q_n, km, w1, w2, w3, w4, l1, c1, k]
    · exact hend x4 x5 q h4
theorem r_groupPush {p g c : Int} {M : EM} (hE : r_E M) (hp : 0 ≤ p ∧ p < 40) (hn : r_G M (28 * p + 2) ≤ 8) (hm : ∀ k, 0 ≤ k → k < r_G M (28 * p + 2) → r_cl (r_G M) p (r_G M (28 * p + 3 + k))) : r_P 199 [192, p, g, c] M := by
  obtain ⟨r, k, hr⟩ := r_group_loop (g := g) (c := c) hE hp hn hm 8 0 0 (by decide) (by decide) (by decide)
  refine ⟨r, ?_, hr⟩
  rw [r_ent (show e_rok 199 [192, p, g, c] = true from decide_eq_true r_ref)]
  show e_tv E_C (E_V 199) e_t199_0 [192, p, g, c, 0, 0] M = _
  unfold e_t199_0
  simp [e_tv, e_ev, e_sv, e_b1, e_b2, x_o1, x_o2, k]
theorem r_hasDiode {p g : Int} {M : EM} (hp : 0 ≤ p ∧ p < 40) (hg : 0 ≤ g ∧ g < 8) : ∃ r, E_C 200 [192, p, g] M = some (r, M) ∧ (r = 0 ∨ r = 1) := by
  have w1 : e_w (28 * p) = 28 * p := a_w_id (by omega) (by omega)
  have w2 : e_w (28 * p + 20) = 28 * p + 20 := a_w_id (by omega) (by omega)
  have w3 : e_w (28 * p + 20 + g) = 28 * p + 20 + g := a_w_id (by omega) (by omega)
  have w4 : e_w (8 * p) = 8 * p := a_w_id (by omega) (by omega)
  have w5 : e_w (8 * p + g) = 8 * p + g := a_w_id (by omega) (by omega)
  have l1 : e_op 60 [193, 28 * p + 20 + g] M = some (r_G M (28 * p + 20 + g)) := r_rd (by omega) (by omega)
  by_cases c1 : r_G M (28 * p + 20 + g) = 1
  · by_cases c2 : M 192 24 = 8 * p + g
    · refine ⟨0, ?_, Or.inl rfl⟩
      rw [r_ent (show e_rok 200 [192, p, g] = true from decide_eq_true r_ref)]
      show e_tv E_C (E_V 200) e_t200_0 [192, p, g] M = _
      unfold e_t200_0
      simp [e_tv, e_ev, e_sv, e_b1, e_b2, x_o1, x_o2, r_O0, r_F24, w1, w2, w3, w4, w5, l1, c1, c2]
    · refine ⟨1, ?_, Or.inr rfl⟩
      rw [r_ent (show e_rok 200 [192, p, g] = true from decide_eq_true r_ref)]
      show e_tv E_C (E_V 200) e_t200_0 [192, p, g] M = _
      unfold e_t200_0
      simp [e_tv, e_ev, e_sv, e_b1, e_b2, x_o1, x_o2, r_O0, r_F24, w1, w2, w3, w4, w5, l1, c1, c2]
  · refine ⟨0, ?_, Or.inl rfl⟩
    rw [r_ent (show e_rok 200 [192, p, g] = true from decide_eq_true r_ref)]
    show e_tv E_C (E_V 200) e_t200_0 [192, p, g] M = _
    unfold e_t200_0
    simp [e_tv, e_ev, e_sv, e_b1, e_b2, x_o1, x_o2, r_O0, w1, w2, w3, l1, c1]
theorem r_low_loop {p c : Int} {M : EM} (hE : r_E M) (hp : 0 ≤ p ∧ p < 40) (hn : r_G M (28 * p + 2) ≤ 8) (hg : r_G M (28 * p + 19) ≤ 8) (hm : ∀ k, 0 ≤ k → k < r_G M (28 * p + 2) → r_cl (r_G M) p (r_G M (28 * p + 3 + k))) : ∀ (m : Nat) (x3 x4 x5 : Int), (8 - x4).toNat ≤ m → 0 ≤ x4 → (-2147483648 ≤ x3 ∧ x3 ≤ 2147483647) → ∃ r, E_V 201 25 [192, p, c, x3, x4, x5] M = some (r, M) ∧ -2147483648 ≤ r ∧ r ≤ 2147483647 := by
  have w1 : e_w (28 * p) = 28 * p := a_w_id (by omega) (by omega)
  have w2 : e_w (28 * p + 19) = 28 * p + 19 := a_w_id (by omega) (by omega)
  have l1 : e_op 60 [193, 28 * p + 19] M = some (r_G M (28 * p + 19)) := r_rd (by omega) (by omega)
  have hend : ∀ x3 x4 x5, ¬ (x4 < r_G M (28 * p + 19)) → (-2147483648 ≤ x3 ∧ x3 ≤ 2147483647) → ∃ r, E_V 201 25 [192, p, c, x3, x4, x5] M = some (r, M) ∧ -2147483648 ≤ r ∧ r ≤ 2147483647 := by
    intro x3 x4 x5 q h4
    refine ⟨x3, ?_, h4⟩
    rw [E_V_eq]
    show e_tv E_C (E_V 201) e_t201_25 [192, p, c, x3, x4, x5] M = _
    unfold e_t201_25
    simp [e_tv, e_ev, e_sv, e_b1, e_b2, x_o1, x_o2, r_O0, w1, w2, l1, q]
  intro m
  induction m with
  | zero => intro x3 x4 x5 h5 h0 h4; exact hend x3 x4 x5 (by omega) h4
  | succ m ih =>
    intro x3 x4 x5 h5 h0 h4
    rcases x_lt x4 (r_G M (28 * p + 19)) with ⟨q, q_n⟩ | ⟨q, q_n⟩
    · have w4 : e_w (x4 + 1) = x4 + 1 := a_w_id (by omega) (by omega)
      obtain ⟨u, ku, hu⟩ := r_groupPush (g := x4) (c := c) hE hp hn hm
      obtain ⟨d, kd, hd⟩ := r_hasDiode (p := p) (g := x4) (M := M) hp ⟨h0, by omega⟩
      by_cases c1 : d = 0
      · obtain ⟨r, k, hr⟩ := ih (e_w (x3 + u)) (x4 + 1) u (by omega) (by omega) (a_w _)
        refine ⟨r, ?_, hr⟩
        rw [E_V_eq]
        show e_tv E_C (E_V 201) e_t201_25 [192, p, c, x3, x4, x5] M = _
        unfold e_t201_25
        simp [e_tv, e_ev, e_sv, e_b1, e_b2, x_o1, x_o2, r_O0, q, q_n, w1, w2, w4, l1, ku, kd, c1, k]
      · rcases x_lt u (-1) with ⟨c2, c2_n⟩ | ⟨c2, c2_n⟩
        · obtain ⟨r, k, hr⟩ := ih (e_w (x3 + -1)) (x4 + 1) u (by omega) (by omega) (a_w _)
          refine ⟨r, ?_, hr⟩
          rw [E_V_eq]
          show e_tv E_C (E_V 201) e_t201_25 [192, p, c, x3, x4, x5] M = _
          unfold e_t201_25
          simp [e_tv, e_ev, e_sv, e_b1, e_b2, x_o1, x_o2, r_O0, q, q_n, w1, w2, w4, l1, ku, kd, c1, c2, c2_n, k]
        · obtain ⟨r, k, hr⟩ := ih (e_w (x3 + u)) (x4 + 1) u (by omega) (by omega) (a_w _)
          refine ⟨r, ?_, hr⟩
          rw [E_V_eq]
          show e_tv E_C (E_V 201) e_t201_25 [192, p, c, x3, x4, x5] M = _
          unfold e_t201_25
          simp [e_tv, e_ev, e_sv, e_b1, e_b2, x_o1, x_o2, r_O0, q, q_n, w1, w2, w4, l1, ku, kd, c1, c2, c2_n, k]
    · exact hend x3 x4 x5 q h4
