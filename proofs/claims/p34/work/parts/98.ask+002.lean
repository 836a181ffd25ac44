theorem r_held {p c w : Int} {M : EM} (hJ : r_J M) : r_Q 213 [192, p, c, w] M := by
  have hE := r_J_E hJ
  have hW := hE.2.1
  by_cases q0 : 0 ≤ p ∧ p < r_G M 1198
  · have ip := r_ip1 hW q0
    have h40 := r_40 hW q0
    have kk : E_C 170 [192, p] M = some (r_G M (28 * p), M) := r_kind h40
    by_cases q1 : 0 ≤ c ∧ c ≤ 99
    · have i1 := r_in1 (M := M) q1
      by_cases q2 : 0 ≤ w ∧ w ≤ 2
      · have i2 := r_in1 (M := M) q2
        by_cases q3 : r_G M (28 * p) = 1
        · obtain ⟨a1, a2, a3⟩ := r_pt_row (r_pt_of hW q0) q3
          obtain ⟨r, k⟩ := r_held_a (c := c) (w := w) hE ⟨a1, h40.2, a3⟩ 8 (-1) 0 0 0 0 0 (by decide) (by decide)
          refine r_same (r := r) hJ ?_
          rw [r_ent (show e_rok 213 [192, p, c, w] = true from decide_eq_true r_ref)]
          show e_tv E_C (E_V 213) e_t213_0 [192, p, c, w, 0, 0, 0, 0, 0, 0] M = _
          unfold e_t213_0
          simp [e_tv, e_ev, e_sv, e_b1, e_b2, x_o1, x_o2, ip, i1, i2, kk, q3, k]
        · refine r_same (r := -3) hJ ?_
          rw [r_ent (show e_rok 213 [192, p, c, w] = true from decide_eq_true r_ref)]
          show e_tv E_C (E_V 213) e_t213_0 [192, p, c, w, 0, 0, 0, 0, 0, 0] M = _
          unfold e_t213_0
          simp [e_tv, e_ev, e_sv, e_b1, e_b2, x_o1, x_o2, ip, i1, i2, kk, q3]
      · have i2 := r_in0 (M := M) q2
        refine r_same (r := -1) hJ ?_
        rw [r_ent (show e_rok 213 [192, p, c, w] = true from decide_eq_true r_ref)]
        show e_tv E_C (E_V 213) e_t213_0 [192, p, c, w, 0, 0, 0, 0, 0, 0] M = _
        unfold e_t213_0
        simp [e_tv, e_ev, e_sv, e_b1, e_b2, x_o1, x_o2, ip, i1, i2]
    · have i1 := r_in0 (M := M) q1
      refine r_same (r := -1) hJ ?_
      rw [r_ent (show e_rok 213 [192, p, c, w] = true from decide_eq_true r_ref)]
      show e_tv E_C (E_V 213) e_t213_0 [192, p, c, w, 0, 0, 0, 0, 0, 0] M = _
      unfold e_t213_0
      simp [e_tv, e_ev, e_sv, e_b1, e_b2, x_o1, x_o2, ip, i1]
  · have ip := r_ip0 hW q0
    refine r_same (r := -1) hJ ?_
    rw [r_ent (show e_rok 213 [192, p, c, w] = true from decide_eq_true r_ref)]
    show e_tv E_C (E_V 213) e_t213_0 [192, p, c, w, 0, 0, 0, 0, 0, 0] M = _
    unfold e_t213_0
    simp [e_tv, e_ev, e_sv, e_b1, e_b2, x_o1, x_o2, ip]
theorem r_lit {p h : Int} {M : EM} (hJ : r_J M) : r_Q 224 [192, p, h] M := by
  have hE := r_J_E hJ
  have hW := hE.2.1
  by_cases q0 : 0 ≤ p ∧ p < r_G M 1198
  · have ip := r_ip1 hW q0
    have h40 := r_40 hW q0
    have kk : E_C 170 [192, p] M = some (r_G M (28 * p), M) := r_kind h40
    by_cases q1 : 0 ≤ h ∧ h ≤ 11
    · have i1 := r_in1 (M := M) q1
      by_cases q3 : r_G M (28 * p) = 0
      · have hc := r_pt_cell (r_pt_of hW q0) q3
        obtain ⟨r, k, -⟩ := r_litOf (h := h) hE.1 q1 h40 hc.2.2.2.2.2
        refine r_same (r := r) hJ ?_
        rw [r_ent (show e_rok 224 [192, p, h] = true from decide_eq_true r_ref)]
        show e_tv E_C (E_V 224) e_t224_0 [192, p, h] M = _
        unfold e_t224_0
        simp [e_tv, e_ev, e_sv, e_b1, e_b2, x_o1, x_o2, ip, i1, kk, q3, k]
      · refine r_same (r := -3) hJ ?_
        rw [r_ent (show e_rok 224 [192, p, h] = true from decide_eq_true r_ref)]
        show e_tv E_C (E_V 224) e_t224_0 [192, p, h] M = _
        unfold e_t224_0
        simp [e_tv, e_ev, e_sv, e_b1, e_b2, x_o1, x_o2, ip, i1, kk, q3]
    · have i1 := r_in0 (M := M) q1
      refine r_same (r := -1) hJ ?_
      rw [r_ent (show e_rok 224 [192, p, h] = true from decide_eq_true r_ref)]
      show e_tv E_C (E_V 224) e_t224_0 [192, p, h] M = _
      unfold e_t224_0
      simp [e_tv, e_ev, e_sv, e_b1, e_b2, x_o1, x_o2, ip, i1]
  · have ip := r_ip0 hW q0
    refine r_same (r := -1) hJ ?_
    rw [r_ent (show e_rok 224 [192, p, h] = true from decide_eq_true r_ref)]
    show e_tv E_C (E_V 224) e_t224_0 [192, p, h] M = _
    unfold e_t224_0
    simp [e_tv, e_ev, e_sv, e_b1, e_b2, x_o1, x_o2, ip]

