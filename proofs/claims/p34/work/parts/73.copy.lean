theorem x_o1 {k : Nat} {a : Int} {M : EM} (h : k ≠ 63) : e_op k [a] M = e_b1 k a := if_neg h
theorem x_o2 {k : Nat} {a b : Int} {M : EM} (h : k ≠ 60) (h1 : k ≠ 61) (h2 : k ≠ 62) : e_op k [a, b] M = e_b2 k a b := by
  simp only [e_op, if_neg h, if_neg h1, if_neg h2]
def a_w143 : AW := a_SH.map (fun s => ((e_gr s.toNat 6).toNat, 0, 119))
theorem c_size {s : Int} {M : EM} (hs : s ∈ a_SH) (hM : a_M M) : 0 ≤ M s.toNat 5 ∧ M s.toNat 5 ≤ 120 := by
  have h1 : ∀ x ∈ a_SH, x.toNat ≠ 5 ∧ (5, 5, 0, 120) ∈ a_mi x.toNat := by decide +kernel
  obtain ⟨h2, h3⟩ := h1 s hs
  exact (hM s.toNat 5 h2).2.2 _ h3 (Nat.le_refl _) (Nat.le_refl _)
theorem c_rok8 {u : Nat} {s : Int} {t : List Int} (hs : s ∈ a_SH) (hu : q_rc (e_vm u) = some 8) : e_rok u (s :: t) = true := by
  unfold e_rok
  rw [hu]
  exact decide_eq_true (c_shelf hs).1
theorem c_nothing {s : Int} {M : EM} (hs : s ∈ a_SH) : E_C 84 [s] M = some (if M s.toNat 0 = 0 ∧ M s.toNat 1 = 0 then 1 else 0, M) := by
  have h1 : E_C 84 [s] M = e_tv E_C (E_V 84) e_t84_0 [s] M := by
    unfold E_C
    rw [if_pos (c_rok8 hs (by decide +kernel)), E_V_eq]
    rfl
  have k1 := (c_shelf hs).1
  have f0 : ∀ M, e_gf 512 [s] M = some (M s.toNat 0) := fun M => c_gf k1 (by decide +kernel)
  have f1 : ∀ M, e_gf 513 [s] M = some (M s.toNat 1) := fun M => c_gf k1 (by decide +kernel)
  rw [h1]
  unfold e_t84_0
  by_cases q0 : M s.toNat 0 = 0
  · by_cases q1 : M s.toNat 1 = 0
    · simp [e_tv, e_ev, e_op, e_b1, f0, f1, q0, q1]
    · simp [e_tv, e_ev, e_op, e_b1, f0, f1, q0, q1]
  · simp [e_tv, e_ev, e_op, e_b1, f0, f1, q0]
theorem c_hasRun {s i n : Int} {M : EM} (hs : s ∈ a_SH) (hM : a_M M) (hi : -2147483648 ≤ i ∧ i ≤ 2147483647) (hn : -2147483648 ≤ n ∧ n ≤ 2147483647) : E_C 90 [s, i, n] M = some (if 0 ≤ i ∧ 0 ≤ n ∧ i + n ≤ M s.toNat 5 then 1 else 0, M) := by
  have h1 : E_C 90 [s, i, n] M = e_tv E_C (E_V 90) e_t90_0 [s, i, n] M := by
    unfold E_C
    rw [if_pos (c_rok8 hs (by decide +kernel)), E_V_eq]
    rfl
  obtain ⟨k1, k2, k3, k4⟩ := c_shelf hs
  have hz := c_size hs hM
  have f5 : ∀ M, e_gf 517 [s] M = some (M s.toNat 5) := fun M => c_gf k1 (by decide +kernel)
  have f6 : ∀ M, e_gf 518 [s] M = some (e_gr s.toNat 6) := fun M => c_gr k1 (by decide +kernel)
  have hne : (e_gr s.toNat 6).toNat ≠ 0 := by omega
  have hlen : ∀ M, e_op 63 [e_gr s.toNat 6] M = some 120 := by
    intro M
    simp only [e_op, if_pos]
    have hsz : e_sz M (e_gr s.toNat 6).toNat = 120 := by unfold e_sz; rw [if_neg hne, k4]
    rw [if_pos ⟨by omega, k3, by rw [k4]; exact Nat.le_refl _⟩, hsz]
    rfl
  have hW : e_W (i + n) = i + n := by unfold e_W; omega
  have hmin : ¬ (120 < M s.toNat 5) := by omega
  rw [h1]
  unfold e_t90_0
  by_cases q0 : 0 ≤ i
  · by_cases q1 : 0 ≤ n
    · by_cases q2 : i + n ≤ M s.toNat 5
      · simp [e_tv, e_ev, e_b1, e_b2, f5, f6, hlen, hW, hmin, q0, q1, q2, x_o1, x_o2]
      · simp [e_tv, e_ev, e_b1, e_b2, f5, f6, hlen, hW, hmin, q0, q1, q2, x_o1, x_o2]
    · simp [e_tv, e_ev, e_b1, e_b2, q0, q1, e_op]
  · simp [e_tv, e_ev, e_b1, e_b2, q0, e_op]
theorem c_el {s : Int} (hs : s ∈ a_SH) : a_mi (e_gr s.toNat 6).toNat = [] ∧ (e_gr s.toNat 6).toNat ≠ e_OUT ∧ (e_gr s.toNat 6).toNat ≠ 5 ∧ e_isO 100 (e_gr s.toNat 6) ∧ ((e_gr s.toNat 6).toNat, 0, 119) ∈ a_w143 := by
  have h2 : ∀ x ∈ a_SH, a_mi (e_gr x.toNat 6).toNat = [] ∧ (e_gr x.toNat 6).toNat ≠ e_OUT ∧ (e_gr x.toNat 6).toNat ≠ 5 ∧ e_isO 100 (e_gr x.toNat 6) ∧ ((e_gr x.toNat 6).toNat, 0, 119) ∈ a_w143 := by decide +kernel
  exact h2 s hs
theorem c_run_copy {s t i j n : Int} {M : EM} (hs : s ∈ a_SH) (ht : t ∈ a_SH) (hM : a_M M) (h0 : 0 ≤ i ∧ 0 ≤ j ∧ 0 ≤ n) (h1 : i + n ≤ 120) (h2 : j + n ≤ 120) : ∃ M', e_cp [e_gr s.toNat 6, i, e_gr t.toNat 6, j, n] M = some M' ∧ a_M M' ∧ a_fr a_w143 M M' := by
  obtain ⟨a1, a2, a3, a4, a5⟩ := c_el hs
  obtain ⟨b1, b2, b3, b4, b5⟩ := c_el ht
  have hz1 := (c_shelf hs).2.2.2
  have hz2 := (c_shelf ht).2.2.2
  have hcp : e_cp [e_gr s.toNat 6, i, e_gr t.toNat 6, j, n] M = some (e_cpm M (e_gr s.toNat 6).toNat i.toNat (e_gr t.toNat 6).toNat j.toNat n.toNat) := if_pos ⟨b4, a4, h0.1, h0.2.1, h0.2.2, by rw [hz1]; exact h1, by rw [hz2]; exact h2⟩
  refine ⟨_, hcp, fun b k h5 => ?_, fun b k hw => ?_⟩
  · unfold e_cpm
    split
    · rename_i hc
      obtain ⟨rfl, -⟩ := hc
      have := c_M32 (k := i.toNat + (k - j.toNat)) hM a3 a2
      refine ⟨?_, ?_, fun s hs => ?_⟩
      · unfold a_lo; rw [if_neg b2]; exact this.1
      · unfold a_hi; rw [if_neg b2]; exact this.2
      · rw [b1] at hs; cases hs
    · exact hM b k h5
  · unfold e_cpm
    rw [if_neg]
    intro hc
    obtain ⟨rfl, hc1, hc2⟩ := hc
    exact hw _ b5 ⟨rfl, Nat.zero_le _, show k ≤ 119 by omega⟩
theorem c_copy {d i e j n : Int} {M : EM} (hM : a_M M) (hd : -2147483648 ≤ d ∧ d ≤ 2147483647) (hi : -2147483648 ≤ i ∧ i ≤ 2147483647) (he : -2147483648 ≤ e ∧ e ≤ 2147483647) (hj : -2147483648 ≤ j ∧ j ≤ 2147483647) (hn : -2147483648 ≤ n ∧ n ≤ 2147483647) : a_OUT a_w143 a_T32 M (E_C 143 [8, d, i, e, j, n] M) := by
  have h1 : E_C 143 [8, d, i, e, j, n] M = e_tv E_C (E_V 143) e_t143_0 [8, d, i, e, j, n, 0, 0] M := by
    unfold E_C
    rw [if_pos (show e_rok 143 [8, d, i, e, j, n] = true from decide_eq_true c_this), E_V_eq]
    rfl
  rw [h1]
  unfold e_t143_0
  obtain ⟨s, s1, s2⟩ := c_shelfAt hM hd
  obtain ⟨t, t1, t2⟩ := c_shelfAt hM he
  by_cases q0 : s = -1
  · subst q0
    exact ⟨-1, M, by simp [e_tv, e_ev, e_sv, e_op, e_b1, s1, t1], a_T32_ok (by decide), hM, a_fr_rf⟩
  have hs := s2.resolve_left q0
  by_cases q1 : t = -1
  · subst q1
    exact ⟨-1, M, by simp [e_tv, e_ev, e_sv, e_op, e_b1, s1, t1, q0], a_T32_ok (by decide), hM, a_fr_rf⟩
  have ht := t2.resolve_left q1
  have k1 := (c_shelf hs).1
  have l1 := (c_shelf ht).1
  have f1 : ∀ M, e_gf 513 [s] M = some (M s.toNat 1) := fun M => c_gf k1 (by decide +kernel)
  have f4 : ∀ M, e_gf 516 [s] M = some (M s.toNat 4) := fun M => c_gf k1 (by decide +kernel)
  have f6 : ∀ M, e_gf 518 [s] M = some (e_gr s.toNat 6) := fun M => c_gr k1 (by decide +kernel)
  have g1 : ∀ M, e_gf 513 [t] M = some (M t.toNat 1) := fun M => c_gf l1 (by decide +kernel)
  have g4 : ∀ M, e_gf 516 [t] M = some (M t.toNat 4) := fun M => c_gf l1 (by decide +kernel)
  have g6 : ∀ M, e_gf 518 [t] M = some (e_gr t.toNat 6) := fun M => c_gr l1 (by decide +kernel)
  by_cases q2 : M s.toNat 0 = 0 ∧ M s.toNat 1 = 0
  · exact ⟨-11, M, by simp [e_tv, e_ev, e_sv, e_op, e_b1, s1, t1, q0, q1, c_nothing hs, c_nothing ht, q2], a_T32_ok (by decide), hM, a_fr_rf⟩
  by_cases q3 : M t.toNat 0 = 0 ∧ M t.toNat 1 = 0
  · exact ⟨-11, M, by simp [e_tv, e_ev, e_sv, e_op, e_b1, s1, t1, q0, q1, c_nothing hs, c_nothing ht, q2, q3], a_T32_ok (by decide), hM, a_fr_rf⟩
  have n1 : E_C 84 [s] M = some (0, M) := by rw [c_nothing hs, if_neg q2]
  have n2 : E_C 84 [t] M = some (0, M) := by rw [c_nothing ht, if_neg q3]
  by_cases q4 : M s.toNat 1 = 0
  · exact ⟨-12, M, by simp [e_tv, e_ev, e_sv, e_op, e_b1, e_b2, s1, t1, q0, q1, n1, n2, f1, g1, f4, g4, q4], a_T32_ok (by decide), hM, a_fr_rf⟩
  by_cases q5 : M t.toNat 1 = 0
  · exact ⟨-12, M, by simp [e_tv, e_ev, e_sv, e_op, e_b1, e_b2, s1, t1, q0, q1, n1, n2, f1, g1, f4, g4, q4, q5], a_T32_ok (by decide), hM, a_fr_rf⟩
  by_cases q6 : M s.toNat 4 = M t.toNat 4
  · by_cases q7 : 0 ≤ i ∧ 0 ≤ n ∧ i + n ≤ M s.toNat 5
    · have u1 : E_C 90 [s, i, n] M = some (1, M) := by rw [c_hasRun hs hM hi hn, if_pos q7]
      by_cases q8 : 0 ≤ j ∧ 0 ≤ n ∧ j + n ≤ M t.toNat 5
      · have u2 : E_C 90 [t, j, n] M = some (1, M) := by rw [c_hasRun ht hM hj hn, if_pos q8]
        have z1 := c_size hs hM
        have z2 := c_size ht hM
        obtain ⟨M', m1, m2, m3⟩ := c_run_copy hs ht hM (i := i) (j := j) (n := n) ⟨q7.1, q8.1, q7.2.1⟩ (by omega) (by omega)
        exact ⟨n, M', by simp [e_tv, e_ev, e_sv, e_op, e_b1, e_b2, s1, t1, q0, q1, n1, n2, f1, g1, f4, g4, f6, g6, q4, q5, q6, u1, u2, m1], a_T32_ok hn, m2, m3⟩
      · have u2 : E_C 90 [t, j, n] M = some (0, M) := by rw [c_hasRun ht hM hj hn, if_neg q8]
        exact ⟨-13, M, by simp [e_tv, e_ev, e_sv, e_op, e_b1, e_b2, s1, t1, q0, q1, n1, n2, f1, g1, f4, g4, q4, q5, q6, u1, u2], a_T32_ok (by decide), hM, a_fr_rf⟩
    · have u1 : E_C 90 [s, i, n] M = some (0, M) := by rw [c_hasRun hs hM hi hn, if_neg q7]
      exact ⟨-13, M, by simp [e_tv, e_ev, e_sv, e_op, e_b1, e_b2, s1, t1, q0, q1, n1, n2, f1, g1, f4, g4, q4, q5, q6, u1], a_T32_ok (by decide), hM, a_fr_rf⟩
  · exact ⟨-12, M, by simp [e_tv, e_ev, e_sv, e_op, e_b1, e_b2, s1, t1, q0, q1, n1, n2, f1, g1, f4, g4, q4, q5, q6], a_T32_ok (by decide), hM, a_fr_rf⟩
