/-! THE LAW'S LOOP: every call, of the class and of the reference, comes to an end -/
/-- what one call may change -/
def l_st (M M1 : EM) : Prop := r_J M1 ∧ (∀ k, M1 0 k = M 0 k) ∧ M1 5 1 = M 5 1 ∧ M 5 0 ≤ M1 5 0 ∧ M1 5 0 ≤ M 5 0 + 1
def l_s0 (M M1 : EM) : Prop := r_J M1 ∧ (∀ k, M1 0 k = M 0 k) ∧ M1 5 1 = M 5 1 ∧ M1 5 0 = M 5 0
theorem l_cl {M M1 : EM} {W : AW} (hJ : r_J M) (h3 : a_M M1) (h4 : a_fr W M M1) (hW : (W.all fun w => decide (8 ≤ w.1) && decide (w.1 < 192)) = true) : l_s0 M M1 := by
  have e : ∀ id k, id < 8 ∨ 192 ≤ id → M1 id k = M id k := fun id k h => h4 id k (fun w hw hc => by
    have := List.all_eq_true.mp hW w hw
    simp only [Bool.and_eq_true, decide_eq_true_eq] at this
    omega)
  obtain ⟨j1, j2, j3, j4, j5⟩ := hJ
  have e1 : r_G M1 = r_G M := funext fun i => e _ _ (by omega)
  have e2 : r_Gi M1 = r_Gi M := funext fun i => e _ _ (by omega)
  refine ⟨⟨h3, fun j hj => ?_, by rw [e1]; exact j3, ?_, ?_⟩, fun k => e _ _ (by omega), e _ _ (by omega), e _ _ (by omega)⟩
  · rw [e _ _ (by omega)]; exact j2 j hj
  · rw [e _ _ (by omega), e2]; exact j4
  · rw [e _ _ (by omega)]; exact j5
theorem l_rf {W : AW} {u : Nat} {as : List Int} {M : EM} (h : r_T W u as M) (hW : (W.all fun w => decide (192 ≤ w.1)) = true) : ∃ r M1, E_C u as M = some (r, M1) ∧ l_s0 M M1 := by
  obtain ⟨r, M1, k, j, f⟩ := h
  have e : ∀ id k, id < 192 → M1 id k = M id k := fun id k h => f id k (fun w hw hc => by
    have h2 : 192 ≤ w.1 := by
      rcases List.mem_append.mp hw with hw | hw
      · exact of_decide_eq_true (List.all_eq_true.mp hW w hw)
      · exact (show ∀ w ∈ r_wq, 192 ≤ w.1 by decide) w hw
    omega)
  exact ⟨r, M1, k, j, fun k => e _ _ (by decide), e _ _ (by decide), e _ _ (by decide)⟩
theorem l_out {W : AW} {rho : AV} {M : EM} {o : EO} (h : a_OUT W rho M o) (hJ : r_J M) (hW : (W.all fun w => decide (8 ≤ w.1) && decide (w.1 < 192)) = true) : ∃ r M1, o = some (r, M1) ∧ l_s0 M M1 := by
  obtain ⟨r, M1, k, -, h3, h4⟩ := h
  exact ⟨r, M1, k, l_cl hJ h3 h4 hW⟩
theorem l_up213 {M : EM} {v : Int} (hM : a_M M) (hv : -9223372036854775808 ≤ v ∧ v ≤ 9223372036854775807) : a_M (e_up M 213 0 v) := by
  intro b j hb
  by_cases hc : b = 213 ∧ j = 0
  · obtain ⟨rfl, rfl⟩ := hc
    rw [c_up_s]
    refine ⟨?_, ?_, fun s hs => ?_⟩
    · exact hv.1
    · exact hv.2
    · rw [show a_mi 213 = [] from by decide +kernel] at hs; cases hs
  · rw [c_up_n hc]; exact hM b j hb
theorem l_J213 {M : EM} {v : Int} (hJ : r_J M) (hv : -9223372036854775808 ≤ v ∧ v ≤ 9223372036854775807) : l_s0 M (e_up M 213 0 v) := by
  have e : ∀ id k, id ≠ 213 → (e_up M 213 0 v) id k = M id k := fun id k h => c_up_n (fun hc => h hc.1)
  obtain ⟨j1, j2, j3, j4, j5⟩ := hJ
  have e1 : r_G (e_up M 213 0 v) = r_G M := funext fun i => e _ _ (by decide)
  have e2 : r_Gi (e_up M 213 0 v) = r_Gi M := funext fun i => e _ _ (by decide)
  refine ⟨⟨l_up213 j1 hv, fun j hj => ?_, by rw [e1]; exact j3, ?_, ?_⟩, fun k => e _ _ (by decide), e _ _ (by decide), e _ _ (by decide)⟩
  · rw [e _ _ (by decide)]; exact j2 j hj
  · rw [e _ _ (by decide), e2]; exact j4
  · rw [e _ _ (by decide)]; exact j5
theorem l_thr {M : EM} (hJ : r_J M) : l_st M (c_thr M) := by
  have e : ∀ id k, id ≠ 5 → (c_thr M) id k = M id k := fun id k h => c_up_n (fun hc => h hc.1)
  have e5 : (c_thr M) 5 0 = M 5 0 + 1 := c_up_s
  obtain ⟨j1, j2, j3, j4, j5⟩ := hJ
  have e1 : r_G (c_thr M) = r_G M := funext fun i => e _ _ (by decide)
  have e2 : r_Gi (c_thr M) = r_Gi M := funext fun i => e _ _ (by decide)
  refine ⟨⟨fun id k h => by rw [e id k h]; exact j1 id k h, fun j hj => ?_, by rw [e1]; exact j3, ?_, ?_⟩, fun k => e _ _ (by decide), c_up_n (fun hc => absurd hc.2 (by decide)), by rw [e5]; omega, by rw [e5]; omega⟩
  · rw [e _ _ (by decide)]; exact j2 j hj
  · rw [e _ _ (by decide), e2]; exact j4
  · rw [e _ _ (by decide)]; exact j5
theorem l_s0_st {M M1 : EM} (h : l_s0 M M1) : l_st M M1 := ⟨h.1, h.2.1, h.2.2.1, by rw [h.2.2.2]; exact Int.le_refl _, by rw [h.2.2.2]; omega⟩
theorem l_st_s0 {M M1 M2 : EM} (h : l_st M M1) (k : l_s0 M1 M2) : l_st M M2 := ⟨k.1, fun j => (k.2.1 j).trans (h.2.1 j), k.2.2.1.trans h.2.2.1, by rw [k.2.2.2]; exact h.2.2.2.1, by rw [k.2.2.2]; exact h.2.2.2.2⟩
theorem l_32 {M : EM} (hJ : r_J M) (k : Nat) : -2147483648 ≤ M 0 k ∧ M 0 k ≤ 2147483647 := c_M32 hJ.1 (by decide) (by decide +kernel)
theorem l_rd {n j : Int} {M : EM} (hn : M 5 1 = n) (h0 : 0 ≤ j) (h1 : j < n) : e_op 60 [0, j] M = some (M 0 j.toNat) := by
  have hin : e_in2 M 100 0 j := by
    refine ⟨by decide, by decide +kernel, by decide +kernel, h0, ?_⟩
    unfold e_sz
    rw [if_pos (by decide), hn]
    omega
  simp only [e_op, if_pos]
  rw [if_pos hin]
  rfl
theorem l_len {n : Int} {M : EM} (hn : M 5 1 = n) (h0 : 0 ≤ n) : e_op 63 [0] M = some n := by
  simp only [e_op, if_pos]
  rw [if_pos (by decide +kernel)]
  unfold e_sz
  rw [if_pos (by decide), hn]
  exact congrArg some (by omega)
/-! the three that may throw, and where they are caught -/
def l_OUT (W : AW) (M : EM) (o : EO) : Prop := ∃ r M', o = some (r, M') ∧ (((-9223372036854775808 ≤ r ∧ r ≤ 9223372036854775807) ∧ a_M M' ∧ a_fr W M M') ∨ (r = e_TH ∧ M' = c_thr M))
theorem l_TH (r : Int) (h : -9223372036854775808 ≤ r ∧ r ≤ 9223372036854775807) : r ≠ e_TH ∧ r ≠ e_TH + 1 := by
  unfold e_TH
  omega
theorem l_T64 {r : Int} (h : a_g a_T64 r) : -9223372036854775808 ≤ r ∧ r ≤ 9223372036854775807 := ⟨h.1, h.2.1⟩
theorem l_cpush {p c : Int} {M : EM} (hM : a_M M) (hp : -2147483648 ≤ p ∧ p ≤ 2147483647) (hc : -2147483648 ≤ c ∧ c ≤ 2147483647) : l_OUT (a_w1 ++ a_w16) M (E_C 109 [8, p, c] M) := by
  obtain ⟨r, M', k, h⟩ := c_push hM hp hc
  rcases h with ⟨h1, h2, h3⟩ | ⟨h1, h2⟩
  · exact ⟨r, M', k, Or.inl ⟨l_T64 h1, h2, h3⟩⟩
  · rcases h1 with h1 | h1
    · exact ⟨r, M', k, Or.inr ⟨h1, h2⟩⟩
    · exfalso
      have e : E_C 109 [8, p, c] M = e_tv E_C (E_V 109) e_t109_0 [8, p, c] M := by
        unfold E_C
        rw [if_pos (show e_rok 109 [8, p, c] = true from decide_eq_true c_this), E_V_eq]
        rfl
      rw [e] at k
      unfold e_t109_0 at k
      obtain ⟨s, s1, s2, s3⟩ := c_isPart hM hp
      have key : ∀ M1, (e_tv E_C (E_V 109) (.mulL 3 (.num 0)) [8, p, c] M = some (r, M1)) → False := by
        intro M1 k
        simp [e_tv, e_ev] at k
        unfold e_TH at k h1
        omega
      by_cases q0 : s = 0
      · subst q0
        simp [e_tv, e_ev, e_op, e_b1, e_b2, s1] at k
        unfold e_TH at k h1
        omega
      · rcases x_le 0 c with ⟨q1, q1_n⟩ | ⟨q1, q1_n⟩
        · rcases x_lt 999 c with ⟨q2, q2_n⟩ | ⟨q2, q2_n⟩
          · simp [e_tv, e_ev, e_op, e_b1, e_b2, s1, q0, q1, q1_n, q1_n, q2, q2_n, q2_n] at k
            unfold e_TH at k h1
            omega
          · obtain ⟨s', M2, t1, -, t3, t4⟩ := a_entry a_c1 (as := [170, p]) (M := M) ⟨List.mem_cons_self, a_gi hp.1 hp.2, trivial⟩ hM
            obtain ⟨t, M3, u1, u2, u3, u4⟩ := a_entry a_c16 (as := [170, c]) (M := M2) ⟨List.mem_cons_self, a_gi hc.1 hc.2, trivial⟩ t3
            have hr : a_rho 16 = a_i (-2147483648) 2147483647 := by rfl
            rw [hr] at u2
            have u5 : (-2147483648 : Int) ≤ t := u2.1
            have u6 : t ≤ 2147483647 := u2.2.1
            simp [e_tv, e_ev, e_sv, e_op, e_b1, e_b2, s1, q0, q1, q1_n, q1_n, q2, q2_n, q2_n, c_bench, t1, u1] at k
            unfold e_TH at h1
            omega
        · simp [e_tv, e_ev, e_op, e_b1, e_b2, s1, q0, q1, q1_n, q1_n] at k
          unfold e_TH at k h1
          omega
