theorem r_faults {p : Int} {M : EM} (hJ : r_J M) : r_Q 248 [192, p] M := by
  have hW := (r_J_E hJ).2.1
  by_cases q0 : 0 ≤ p ∧ p < r_G M 1198
  · have ip := r_ip1 hW q0
    obtain ⟨M', k, t1, t2, t3⟩ := r_gathers hJ q0
    refine ⟨e_w (e_w (1 + M' 192 13) + M' 192 14), M', ?_, t1.1, t2, t1.2.2.2.2⟩
    rw [r_ent (show e_rok 248 [192, p] = true from decide_eq_true r_ref)]
    show e_tv E_C (E_V 248) e_t248_0 [192, p] M = _
    unfold e_t248_0
    simp [e_tv, e_ev, e_sv, e_b1, e_b2, x_o1, x_o2, r_F13, r_F14, ip, k]
  · have ip := r_ip0 hW q0
    refine r_same (r := -1) hJ ?_
    rw [r_ent (show e_rok 248 [192, p] = true from decide_eq_true r_ref)]
    show e_tv E_C (E_V 248) e_t248_0 [192, p] M = _
    unfold e_t248_0
    simp [e_tv, e_ev, e_sv, e_b1, e_b2, x_o1, x_o2, ip]
theorem r_about {p w : Int} {M : EM} (hJ : r_J M) : r_Q 191 [192, p, w] M := by
  have hW := (r_J_E hJ).2.1
  by_cases q0 : 0 ≤ p ∧ p < r_G M 1198
  · have ip := r_ip1 hW q0
    have h40 := r_40 hW q0
    by_cases q1 : 0 ≤ w ∧ w ≤ 4
    · have i1 := r_in1 (M := M) q1
      obtain ⟨M', k, t1, t2, t3⟩ := r_gathers hJ q0
      have w1 : e_w (28 * p) = 28 * p := a_w_id (by omega) (by omega)
      have w2 : e_w (28 * p + 19) = 28 * p + 19 := a_w_id (by omega) (by omega)
      have w3 : e_w (28 * p + 1) = 28 * p + 1 := a_w_id (by omega) (by omega)
      have l1 : e_op 60 [193, 28 * p + 19] M' = some (r_G M' (28 * p + 19)) := r_rd (by omega) (by omega)
      have l2 : e_op 60 [193, 28 * p + 1] M' = some (r_G M' (28 * p + 1)) := r_rd (by omega) (by omega)
      have kk : E_C 170 [192, p] M' = some (r_G M' (28 * p), M') := r_kind h40
      have km : E_C 171 [192, p] M' = some (r_G M' (28 * p + 2), M') := r_many h40
      have j60 : ∃ r, E_V 191 60 [192, p, w] M' = some (r, M') := by
        refine ⟨r_G M' (28 * p), ?_⟩
        rw [E_V_eq]
        show e_tv E_C (E_V 191) e_t191_60 [192, p, w] M' = _
        unfold e_t191_60
        simp [e_tv, e_ev, e_sv, e_b1, e_b2, x_o1, x_o2, kk]
      have j66 : ∃ r, E_V 191 66 [192, p, w] M' = some (r, M') := by
        refine ⟨M' 192 13, ?_⟩
        rw [E_V_eq]
        show e_tv E_C (E_V 191) e_t191_66 [192, p, w] M' = _
        unfold e_t191_66
        simp [e_tv, e_ev, e_sv, e_b1, e_b2, x_o1, x_o2, r_F13]
      have j71 : ∃ r, E_V 191 71 [192, p, w] M' = some (r, M') := by
        refine ⟨M' 192 14, ?_⟩
        rw [E_V_eq]
        show e_tv E_C (E_V 191) e_t191_71 [192, p, w] M' = _
        unfold e_t191_71
        simp [e_tv, e_ev, e_sv, e_b1, e_b2, x_o1, x_o2, r_F14]
      have j76 : ∃ r, E_V 191 76 [192, p, w] M' = some (r, M') := by
        by_cases c : r_G M' (28 * p) = 1
        · refine ⟨r_G M' (28 * p + 19), ?_⟩
          rw [E_V_eq]
          show e_tv E_C (E_V 191) e_t191_76 [192, p, w] M' = _
          unfold e_t191_76
          simp [e_tv, e_ev, e_sv, e_b1, e_b2, x_o1, x_o2, r_O0, kk, c, w1, w2, l1]
        · refine ⟨r_G M' (28 * p + 2), ?_⟩
          rw [E_V_eq]
          show e_tv E_C (E_V 191) e_t191_76 [192, p, w] M' = _
          unfold e_t191_76
          simp [e_tv, e_ev, e_sv, e_b1, e_b2, x_o1, x_o2, r_O0, kk, km, c]
      have j106 : ∃ r, E_V 191 106 [192, p, w] M' = some (r, M') := by
        by_cases c : r_G M' (28 * p + 1) = 0
        · refine ⟨-4, ?_⟩
          rw [E_V_eq]
          show e_tv E_C (E_V 191) e_t191_106 [192, p, w] M' = _
          unfold e_t191_106
          simp [e_tv, e_ev, e_sv, e_b1, e_b2, x_o1, x_o2, r_O0, w1, w3, l2, c]
        · refine ⟨e_w (r_G M' (28 * p + 1) - 1), ?_⟩
          rw [E_V_eq]
          show e_tv E_C (E_V 191) e_t191_106 [192, p, w] M' = _
          unfold e_t191_106
          simp [e_tv, e_ev, e_sv, e_b1, e_b2, x_o1, x_o2, r_O0, w1, w3, l2, c]
      have h9 : w = 0 ∨ w = 1 ∨ w = 2 ∨ w = 3 ∨ w = 4 := by omega
      rcases h9 with rfl | rfl | rfl | rfl | rfl
      · obtain ⟨r, hj⟩ := j60
        refine ⟨r, M', ?_, t1.1, t2, t1.2.2.2.2⟩
        rw [r_ent (show e_rok 191 [192, p, 0] = true from decide_eq_true r_ref)]
        show e_tv E_C (E_V 191) e_t191_0 [192, p, 0] M = _
        unfold e_t191_0
        simp [e_tv, e_ev, e_sv, e_b1, e_b2, x_o1, x_o2, e_len, e_nth, ip, i1, k, hj]
      · obtain ⟨r, hj⟩ := j66
        refine ⟨r, M', ?_, t1.1, t2, t1.2.2.2.2⟩
        rw [r_ent (show e_rok 191 [192, p, 1] = true from decide_eq_true r_ref)]
        show e_tv E_C (E_V 191) e_t191_0 [192, p, 1] M = _
        unfold e_t191_0
        simp [e_tv, e_ev, e_sv, e_b1, e_b2, x_o1, x_o2, e_len, e_nth, ip, i1, k, hj]
      · obtain ⟨r, hj⟩ := j71
        refine ⟨r, M', ?_, t1.1, t2, t1.2.2.2.2⟩
        rw [r_ent (show e_rok 191 [192, p, 2] = true from decide_eq_true r_ref)]
        show e_tv E_C (E_V 191) e_t191_0 [192, p, 2] M = _
        unfold e_t191_0
        simp [e_tv, e_ev, e_sv, e_b1, e_b2, x_o1, x_o2, e_len, e_nth, ip, i1, k, hj]
      · obtain ⟨r, hj⟩ := j76
        refine ⟨r, M', ?_, t1.1, t2, t1.2.2.2.2⟩
        rw [r_ent (show e_rok 191 [192, p, 3] = true from decide_eq_true r_ref)]
        show e_tv E_C (E_V 191) e_t191_0 [192, p, 3] M = _
        unfold e_t191_0
        simp [e_tv, e_ev, e_sv, e_b1, e_b2, x_o1, x_o2, e_len, e_nth, ip, i1, k, hj]
      · obtain ⟨r, hj⟩ := j106
        refine ⟨r, M', ?_, t1.1, t2, t1.2.2.2.2⟩
        rw [r_ent (show e_rok 191 [192, p, 4] = true from decide_eq_true r_ref)]
        show e_tv E_C (E_V 191) e_t191_0 [192, p, 4] M = _
        unfold e_t191_0
        simp [e_tv, e_ev, e_sv, e_b1, e_b2, x_o1, x_o2, e_len, e_nth, ip, i1, k, hj]
    · have i1 := r_in0 (M := M) q1
      refine r_same (r := -1) hJ ?_
      rw [r_ent (show e_rok 191 [192, p, w] = true from decide_eq_true r_ref)]
      show e_tv E_C (E_V 191) e_t191_0 [192, p, w] M = _
      unfold e_t191_0
      simp [e_tv, e_ev, e_sv, e_b1, e_b2, x_o1, x_o2, ip, i1]
  · have ip := r_ip0 hW q0
    refine r_same (r := -1) hJ ?_
    rw [r_ent (show e_rok 191 [192, p, w] = true from decide_eq_true r_ref)]
    show e_tv E_C (E_V 191) e_t191_0 [192, p, w] M = _
    unfold e_t191_0
    simp [e_tv, e_ev, e_sv, e_b1, e_b2, x_o1, x_o2, ip]

