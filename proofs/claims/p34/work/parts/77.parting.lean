theorem c_refusal {s d : Int} {M : EM} (hs : s = -1 ∨ s ∈ a_SH) (hM : a_M M) (hd : -2147483648 ≤ d ∧ d ≤ 2147483647) : ∃ r, E_C 156 [s, d] M = some (r, M) ∧ -2147483648 ≤ r ∧ r ≤ 2147483647 := by
  obtain ⟨r, M', h1, h2, h3, h4⟩ := a_entry a_c156 (as := [s, d]) ⟨List.mem_cons.mpr hs, a_gi hd.1 hd.2, trivial⟩ hM
  have := c_same h4
  subst this
  have hr : a_rho 156 = a_i (-12) 0 := by rfl
  rw [hr] at h2
  have a1 : -12 ≤ r := h2.1
  have a2 : r ≤ 0 := h2.2.1
  exact ⟨r, h1, by omega, by omega⟩
theorem c_tells {s : Int} {M : EM} (hs : s ∈ a_SH) (hM : a_M M) : ∃ r, E_C 163 [8, s] M = some (r, M) ∧ (r ≠ 0 → 2 ≤ M s.toNat 5 ∧ M s.toNat 5 ≤ 8) := by
  obtain ⟨s1, s2, s3, s4⟩ := c_shelf hs
  have f5 : ∀ M, e_gf 517 [s] M = some (M s.toNat 5) := fun M => c_gf s1 (by decide +kernel)
  by_cases hc : 2 ≤ M s.toNat 5 ∧ M s.toNat 5 ≤ 8
  · obtain ⟨r, M', h1, h2, h3, h4⟩ := a_entry a_c163 (as := [8, s]) ⟨List.mem_cons_self, hs, trivial⟩ hM
    have := c_same h4
    subst this
    exact ⟨r, h1, fun _ => hc⟩
  · refine ⟨0, ?_, fun h => absurd rfl h⟩
    have h1 : E_C 163 [8, s] M = e_tv E_C (E_V 163) e_t163_0 [8, s, 0, 0] M := by
      unfold E_C
      rw [if_pos (show e_rok 163 [8, s] = true from decide_eq_true c_this), E_V_eq]
      rfl
    rw [h1]
    unfold e_t163_0
    by_cases q1 : 2 ≤ M s.toNat 5
    · have q2 : 8 < M s.toNat 5 := by omega
      simp [e_tv, e_ev, e_op, e_b2, f5, q1, q2]
    · simp [e_tv, e_ev, e_op, e_b2, f5, q1]
def a_w127 : AW := a_w2 ++ a_w27
theorem c_parting {d w : Int} {M : EM} (hM : a_M M) (hd : -2147483648 ≤ d ∧ d ≤ 2147483647) : a_OUT a_w127 a_T32 M (E_C 127 [8, d, w] M) := by
  have h1 : E_C 127 [8, d, w] M = e_tv E_C (E_V 127) e_t127_0 [8, d, w, 0, 0, 0] M := by
    unfold E_C
    rw [if_pos (show e_rok 127 [8, d, w] = true from decide_eq_true c_this), E_V_eq]
    rfl
  rw [h1]
  unfold e_t127_0
  obtain ⟨s, s1, s2⟩ := c_shelfAt hM hd
  by_cases q0 : w < 0
  · have q0' : ¬ (0 ≤ w) := by omega
    exact ⟨-1, M, by simp [e_tv, e_ev, e_sv, e_op, e_b1, e_b2, s1, q0, q0'], a_T32_ok (by decide), hM, a_fr_rf⟩
  · have q0' : 0 ≤ w := by omega
    by_cases q1 : 1 < w
    · exact ⟨-1, M, by simp [e_tv, e_ev, e_sv, e_op, e_b1, e_b2, s1, q0, q0', q1], a_T32_ok (by decide), hM, a_fr_rf⟩
    · obtain ⟨r, r1, r2⟩ := c_refusal (d := 0) s2 hM (by decide)
      by_cases q2 : r = 0
      · subst q2
        by_cases q3 : s = -1
        · subst q3
          exact ⟨0, M, by simp [e_tv, e_ev, e_sv, e_op, e_b1, e_b2, s1, q0, q0', q1, r1], a_T32_ok r2, hM, a_fr_rf⟩
        · have hs := s2.resolve_left q3
          obtain ⟨t, t1, t2⟩ := c_tells hs hM
          by_cases q4 : t = 0
          · subst q4
            exact ⟨-13, M, by simp [e_tv, e_ev, e_sv, e_op, e_b1, e_b2, s1, q0, q0', q1, r1, q3, t1], a_T32_ok (by decide), hM, a_fr_rf⟩
          · have hn := t2 q4
            obtain ⟨M1, l1, l2, l3, l4⟩ := c_spread hs hM
            obtain ⟨v, M2, m1, m2, m3, m4⟩ := c_find l2 (by rw [l4]; exact hn)
            have hf : a_fr a_w127 M M2 := a_fr_tr (c_sub_l l3) (c_sub_r m4)
            by_cases q5 : w = 0
            · subst q5
              have g1 : ∀ M, e_gf 1 [170] M = some (M 170 1) := fun M => c_gf c_isB (by decide +kernel)
              exact ⟨M2 170 1, M2, by simp [e_tv, e_ev, e_sv, e_op, e_b1, e_b2, s1, r1, q3, t1, q4, c_bench, l1, m1, g1], a_T32_ok (c_M32 m3 (by decide) (by decide +kernel)), m3, hf⟩
            · exact ⟨v, M2, by simp [e_tv, e_ev, e_sv, e_op, e_b1, e_b2, s1, q0, q0', q1, r1, q3, t1, q4, c_bench, l1, m1, q5], m2, m3, hf⟩
      · exact ⟨r, M, by simp [e_tv, e_ev, e_sv, e_op, e_b1, e_b2, s1, q0, q0', q1, r1, q2], a_T32_ok r2, hM, a_fr_rf⟩
