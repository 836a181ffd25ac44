theorem r_hour {p d h : Int} {M : EM} (hJ : r_J M) : r_Q 230 [192, p, d, h] M := by
  have hE := r_J_E hJ
  have hW := hE.2.1
  by_cases q0 : 0 ≤ p ∧ p < r_G M 1198
  · have ip := r_ip1 hW q0
    by_cases q1 : 0 ≤ d ∧ d ≤ 9
    · have i1 := r_in1 (M := M) q1
      by_cases q2 : 0 ≤ h ∧ h ≤ 11
      · have i2 := r_in1 (M := M) q2
        obtain ⟨r, M1, k, t⟩ := r_hourPower hJ q0 q1 q2
        refine ⟨r, M1, ?_, t⟩
        rw [r_ent (show e_rok 230 [192, p, d, h] = true from decide_eq_true r_ref)]
        show e_tv E_C (E_V 230) e_t230_0 [192, p, d, h] M = _
        unfold e_t230_0
        simp [e_tv, e_ev, e_sv, e_b1, e_b2, x_o1, x_o2, ip, i1, i2, k]
      · have i2 := r_in0 (M := M) q2
        refine r_same (r := -1) hJ ?_
        rw [r_ent (show e_rok 230 [192, p, d, h] = true from decide_eq_true r_ref)]
        show e_tv E_C (E_V 230) e_t230_0 [192, p, d, h] M = _
        unfold e_t230_0
        simp [e_tv, e_ev, e_sv, e_b1, e_b2, x_o1, x_o2, ip, i1, i2]
    · have i1 := r_in0 (M := M) q1
      refine r_same (r := -1) hJ ?_
      rw [r_ent (show e_rok 230 [192, p, d, h] = true from decide_eq_true r_ref)]
      show e_tv E_C (E_V 230) e_t230_0 [192, p, d, h] M = _
      unfold e_t230_0
      simp [e_tv, e_ev, e_sv, e_b1, e_b2, x_o1, x_o2, ip, i1]
  · have ip := r_ip0 hW q0
    refine r_same (r := -1) hJ ?_
    rw [r_ent (show e_rok 230 [192, p, d, h] = true from decide_eq_true r_ref)]
    show e_tv E_C (E_V 230) e_t230_0 [192, p, d, h] M = _
    unfold e_t230_0
    simp [e_tv, e_ev, e_sv, e_b1, e_b2, x_o1, x_o2, ip]
theorem r_q_G {M M' : EM} (h : a_fr r_wq M M') : r_G M' = r_G M := funext fun i => r_wq_out h (by omega)
theorem r_day_loop {p d : Int} (hd : 0 ≤ d ∧ d ≤ 9) : ∀ (m : Nat) (x3 x4 : Int) (M : EM), r_J M → (0 ≤ p ∧ p < r_G M 1198) → (12 - x4).toNat ≤ m → 0 ≤ x4 → ∃ r M', E_V 231 27 [192, p, d, x3, x4] M = some (r, M') ∧ a_M M' ∧ a_fr r_wq M M' ∧ M' 192 20 = -1 := by
  have hend : ∀ x3 x4 M, r_J M → ¬ (x4 < 12) → ∃ r M', E_V 231 27 [192, p, d, x3, x4] M = some (r, M') ∧ a_M M' ∧ a_fr r_wq M M' ∧ M' 192 20 = -1 := by
    intro x3 x4 M hJ q
    refine ⟨x3, M, ?_, hJ.1, a_fr_rf, hJ.2.2.2.2⟩
    rw [E_V_eq]
    show e_tv E_C (E_V 231) e_t231_27 [192, p, d, x3, x4] M = _
    unfold e_t231_27
    simp [e_tv, e_ev, e_sv, e_b1, e_b2, x_o1, x_o2, q]
  intro m
  induction m with
  | zero => intro x3 x4 M hJ hp hm h0; exact hend x3 x4 M hJ (by omega)
  | succ m ih =>
    intro x3 x4 M hJ hp hm h0
    rcases x_lt x4 12 with ⟨q, q_n⟩ | ⟨q, q_n⟩
    · have w4 : e_w (x4 + 1) = x4 + 1 := a_w_id (by omega) (by omega)
      obtain ⟨r, M1, k, t1, t2, t3⟩ := r_hourPower hJ hp hd (h := x4) ⟨h0, by omega⟩
      obtain ⟨r', M2, k2, u1, u2, u3⟩ := ih (e_w (x3 + r)) (x4 + 1) M1 (r_J_q hJ t1 t2 t3) (by rw [r_q_G t2]; exact hp) (by omega) (by omega)
      refine ⟨r', M2, ?_, u1, a_fr_tr t2 u2, u3⟩
      rw [E_V_eq]
      show e_tv E_C (E_V 231) e_t231_27 [192, p, d, x3, x4] M = _
      unfold e_t231_27
      simp [e_tv, e_ev, e_sv, e_b1, e_b2, x_o1, x_o2, q, q_n, k, w4, k2]
    · exact hend x3 x4 M hJ q
theorem r_day {p d : Int} {M : EM} (hJ : r_J M) : r_Q 231 [192, p, d] M := by
  have hW := (r_J_E hJ).2.1
  by_cases q0 : 0 ≤ p ∧ p < r_G M 1198
  · have ip := r_ip1 hW q0
    by_cases q1 : 0 ≤ d ∧ d ≤ 9
    · have i1 := r_in1 (M := M) q1
      obtain ⟨r, M1, k, t⟩ := r_day_loop q1 12 0 0 M hJ q0 (by decide) (by decide)
      refine ⟨r, M1, ?_, t⟩
      rw [r_ent (show e_rok 231 [192, p, d] = true from decide_eq_true r_ref)]
      show e_tv E_C (E_V 231) e_t231_0 [192, p, d, 0, 0] M = _
      unfold e_t231_0
      simp [e_tv, e_ev, e_sv, e_b1, e_b2, x_o1, x_o2, ip, i1, k]
    · have i1 := r_in0 (M := M) q1
      refine r_same (r := -1) hJ ?_
      rw [r_ent (show e_rok 231 [192, p, d] = true from decide_eq_true r_ref)]
      show e_tv E_C (E_V 231) e_t231_0 [192, p, d, 0, 0] M = _
      unfold e_t231_0
      simp [e_tv, e_ev, e_sv, e_b1, e_b2, x_o1, x_o2, ip, i1]
  · have ip := r_ip0 hW q0
    refine r_same (r := -1) hJ ?_
    rw [r_ent (show e_rok 231 [192, p, d] = true from decide_eq_true r_ref)]
    show e_tv E_C (E_V 231) e_t231_0 [192, p, d, 0, 0] M = _
    unfold e_t231_0
    simp [e_tv, e_ev, e_sv, e_b1, e_b2, x_o1, x_o2, ip]
theorem r_withoutOf {p c : Int} {M : EM} (hJ : r_J M) (hp : 0 ≤ p ∧ p < r_G M 1198) (hc : -2147483648 ≤ c ∧ c ≤ 2147483647) : r_Q 245 [192, p, c] M := by
  have hE := r_J_E hJ
  have hW := hE.2.1
  obtain ⟨f1, f2, f3⟩ := r_fup (M := M) (k := 22) (v := c) (by decide) hc hE.1
  have E1 : r_E (e_up M 192 22 c) := r_E_f hE (by decide) (by decide) hc
  obtain ⟨r, M3, k3, e3⟩ := r_bestPower E1 hW.2.1 (by rw [f3]; exact r_pt_of hW hp)
  obtain ⟨h1, h2, -⟩ := r_fup (M := M3) (k := 22) (v := 0) (by decide) (by decide) e3.1
  refine ⟨r, e_up M3 192 22 0, ?_, h1, a_fr_tr f2 (a_fr_tr (r_evq e3) h2), ?_⟩
  · rw [r_ent (show e_rok 245 [192, p, c] = true from decide_eq_true r_ref)]
    show e_tv E_C (E_V 245) e_t245_0 [192, p, c, 0] M = _
    unfold e_t245_0
    simp [e_tv, e_ev, e_sv, e_b1, e_b2, x_o1, x_o2, r_P22, k3]
  · rw [r_up20 (by decide), r_ev_same e3 (by decide) (by decide), r_up20 (by decide)]
    exact hJ.2.2.2.2
theorem r_without {p c : Int} {M : EM} (hJ : r_J M) : r_Q 246 [192, p, c] M := by
  have hW := (r_J_E hJ).2.1
  by_cases q0 : 0 ≤ p ∧ p < r_G M 1198
  · have ip := r_ip1 hW q0
    by_cases q1 : 0 ≤ c ∧ c ≤ 15
    · have i1 := r_in1 (M := M) q1
      obtain ⟨r, M1, k, t⟩ := r_withoutOf (c := c) hJ q0 ⟨by omega, by omega⟩
      refine ⟨r, M1, ?_, t⟩
      rw [r_ent (show e_rok 246 [192, p, c] = true from decide_eq_true r_ref)]
      show e_tv E_C (E_V 246) e_t246_0 [192, p, c] M = _
      unfold e_t246_0
      simp [e_tv, e_ev, e_sv, e_b1, e_b2, x_o1, x_o2, ip, i1, k]
    · have i1 := r_in0 (M := M) q1
      refine r_same (r := -1) hJ ?_
      rw [r_ent (show e_rok 246 [192, p, c] = true from decide_eq_true r_ref)]
      show e_tv E_C (E_V 246) e_t246_0 [192, p, c] M = _
      unfold e_t246_0
      simp [e_tv, e_ev, e_sv, e_b1, e_b2, x_o1, x_o2, ip, i1]
  · have ip := r_ip0 hW q0
    refine r_same (r := -1) hJ ?_
    rw [r_ent (show e_rok 246 [192, p, c] = true from decide_eq_true r_ref)]
    show e_tv E_C (E_V 246) e_t246_0 [192, p, c] M = _
    unfold e_t246_0
    simp [e_tv, e_ev, e_sv, e_b1, e_b2, x_o1, x_o2, ip]
