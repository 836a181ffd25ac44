/-! the class's row answers as the reference's -/
theorem c_shelfAt_eq {d : Int} {M : EM} (hM : a_M M) (hd : -2147483648 ≤ d ∧ d ≤ 2147483647) : ∃ s, E_C 154 [8, d] M = some (s, M) ∧ (s = -1 ∨ s ∈ a_SH) ∧ (s = -1 ↔ ¬ (0 ≤ d ∧ d ≤ 7)) := by
  obtain ⟨s, s1, s2⟩ := c_shelfAt hM hd
  refine ⟨s, s1, s2, ?_⟩
  have h1 : E_C 154 [8, d] M = e_tv E_C (E_V 154) e_t154_0 [8, d] M := by
    unfold E_C
    rw [if_pos (show e_rok 154 [8, d] = true from decide_eq_true c_this), E_V_eq]
    rfl
  have g3 : ∀ M, e_gf 707 [8] M = some 145 := fun M => (c_gr c_this (by decide +kernel)).trans (congrArg some (by decide +kernel))
  have hz : e_sz M 145 = 8 := rfl
  have hlen : e_op 63 [145] M = some 8 := by
    simp only [e_op, if_pos]
    rw [if_pos (by decide +kernel)]
    rw [show (145 : Int).toNat = 145 from rfl, hz]
    rfl
  rw [h1] at s1
  unfold e_t154_0 at s1
  by_cases q0 : 0 ≤ d ∧ d ≤ 7
  · obtain ⟨q1, q2⟩ := q0
    have hld : e_op 62 [145, d] M = some (e_gr 145 d.toNat) := by
      simp only [e_op]
      rw [if_neg (by decide), if_neg (by decide)]
      simp only [if_pos]
      rw [if_pos ⟨by decide, by decide +kernel, by decide +kernel, q1, by rw [show (145 : Int).toNat = 145 from rfl, hz]; omega⟩]
      rfl
    have hlt : d < 8 := by omega
    have q1' : ¬ (d < 0) := by omega
    simp [e_tv, e_ev, e_b1, e_b2, g3, hlen, hld, x_o1, x_o2, q1, q1', hlt] at s1
    have h2 : ∀ k : Fin 8, e_gr 145 k.val ≠ -1 := by decide +kernel
    have h3 := h2 ⟨d.toNat, by omega⟩
    exact ⟨fun h => absurd (s1.trans h) h3, fun h => absurd ⟨q1, q2⟩ h⟩
  · refine ⟨fun _ => q0, fun _ => ?_⟩
    by_cases q1 : 0 ≤ d
    · have hlt : ¬ (d < 8) := by omega
      have q1' : ¬ (d < 0) := by omega
      simp [e_tv, e_ev, e_b1, e_b2, g3, hlen, x_o1, x_o2, q1, q1', hlt] at s1
      exact s1.symm
    · have q1' : d < 0 := by omega
      simp [e_tv, e_ev, e_b1, e_b2, g3, hlen, x_o1, x_o2, q1, q1'] at s1
      exact s1.symm
theorem c_row {d k n : Int} {M : EM} (hM : a_M M) (hd : -2147483648 ≤ d ∧ d ≤ 2147483647) (hk : -2147483648 ≤ k ∧ k ≤ 2147483647) (hn : -2147483648 ≤ n ∧ n ≤ 2147483647) : ∃ M', E_C 140 [8, d, k, n] M = some (if 0 ≤ d ∧ d ≤ 7 ∧ 0 ≤ k ∧ k ≤ 2 ∧ n ≤ 120 then (if n < 0 then -14 else 0) else -1, M') ∧ a_M M' ∧ a_fr a_w140 M M' := by
  obtain ⟨r, M', t1, -, t3, t4⟩ := a_entry a_c140 (as := [8, d, k, n]) ⟨List.mem_cons_self, a_gi hd.1 hd.2, a_gi hk.1 hk.2, a_gi hn.1 hn.2, trivial⟩ hM
  refine ⟨M', ?_, t3, t4⟩
  rw [t1]
  suffices h : r = (if 0 ≤ d ∧ d ≤ 7 ∧ 0 ≤ k ∧ k ≤ 2 ∧ n ≤ 120 then (if n < 0 then -14 else 0) else -1) by rw [h]
  have h1 : E_C 140 [8, d, k, n] M = e_tv E_C (E_V 140) e_t140_0 [8, d, k, n, 0] M := by
    unfold E_C
    rw [if_pos (show e_rok 140 [8, d, k, n] = true from decide_eq_true c_this), E_V_eq]
    rfl
  rw [h1] at t1
  unfold e_t140_0 at t1
  obtain ⟨s, s1, s2, s3⟩ := c_shelfAt_eq hM hd
  by_cases q0 : s = -1
  · have hc : ¬ (0 ≤ d ∧ d ≤ 7 ∧ 0 ≤ k ∧ k ≤ 2 ∧ n ≤ 120) := fun h => s3.mp q0 ⟨h.1, h.2.1⟩
    rw [if_neg hc]
    simp [e_tv, e_ev, e_sv, e_op, e_b1, e_b2, s1, q0] at t1
    exact t1.1.symm
  · have hdd : 0 ≤ d ∧ d ≤ 7 := Decidable.not_not.mp (fun h => q0 (s3.mpr h))
    by_cases q1 : 0 ≤ k
    · have q1' : ¬ (k < 0) := by omega
      by_cases q2 : k ≤ 2
      · have q2' : ¬ (2 < k) := by omega
        by_cases q3 : 120 < n
        · rw [if_neg (by omega)]
          simp [e_tv, e_ev, e_sv, e_op, e_b1, e_b2, s1, q0, q1, q1', q2, q2', q3] at t1
          exact t1.1.symm
        · have q3' : n ≤ 120 := by omega
          rw [if_pos ⟨hdd.1, hdd.2, q1, q2, q3'⟩]
          by_cases q4 : n < 0
          · rw [if_pos q4]
            have q4' : ¬ (0 ≤ n) := by omega
            simp [e_tv, e_ev, e_sv, e_op, e_b1, e_b2, s1, q0, q1, q1', q2, q2', q3, q3', q4, q4'] at t1
            exact t1.1.symm
          · rw [if_neg q4]
            have q4' : 0 ≤ n := by omega
            cases hq : E_C 87 [s, k, n] M with
            | none => simp [e_tv, e_ev, e_sv, e_op, e_b1, e_b2, s1, q0, q1, q1', q2, q2', q3, q3', q4, q4', hq] at t1
            | some z =>
              simp [e_tv, e_ev, e_sv, e_op, e_b1, e_b2, s1, q0, q1, q1', q2, q2', q3, q3', q4, q4', hq] at t1
              exact t1.1.symm
      · have q2' : 2 < k := by omega
        rw [if_neg (by omega)]
        simp [e_tv, e_ev, e_sv, e_op, e_b1, e_b2, s1, q0, q1, q1', q2, q2'] at t1
        exact t1.1.symm
    · have q1' : k < 0 := by omega
      rw [if_neg (by omega)]
      simp [e_tv, e_ev, e_sv, e_op, e_b1, e_b2, s1, q0, q1, q1'] at t1
      exact t1.1.symm
