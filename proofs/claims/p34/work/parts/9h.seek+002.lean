theorem r_led {p u n : Int} {M : EM} (hJ : r_J M) : r_Q 217 [192, p, u, n] M := by
  have hE := r_J_E hJ
  have hW := hE.2.1
  by_cases q0 : 0 ≤ p ∧ p < r_G M 1198
  · have ip := r_ip1 hW q0
    have h40 := r_40 hW q0
    have kk : E_C 170 [192, p] M = some (r_G M (28 * p), M) := r_kind h40
    by_cases q1 : 0 ≤ u ∧ u ≤ 500
    · have i1 := r_in1 (M := M) q1
      by_cases q2 : 0 ≤ n ∧ n ≤ 200
      · have i2 := r_in1 (M := M) q2
        by_cases q3 : r_G M (28 * p) = 3
        · have w1 : e_w (28 * p) = 28 * p := a_w_id (by omega) (by omega)
          have w2 : e_w (28 * p + 5) = 28 * p + 5 := a_w_id (by omega) (by omega)
          obtain ⟨M1, k1, e1⟩ := r_gives hE hW.2.1 (r_pt_of hW q0)
          have J1 := r_ev_J hJ e1
          have l0 := r_rd (i := 28 * p + 5) (M := M1) (by omega) (by omega)
          obtain ⟨b, kb, hb⟩ := r_bestOf J1.1
          obtain ⟨u1, v1⟩ := r_qfld (k := 27) (v := u) (by decide) (by decide) ⟨by omega, by omega⟩ J1
          obtain ⟨u2, v2⟩ := r_qfld (k := 28) (v := 1) (by decide) (by decide) (by decide) u1
          obtain ⟨u3, v3⟩ := r_qfld (k := 30) (v := 0) (by decide) (by decide) (by decide) u2
          obtain ⟨r, M', k, t1, t2⟩ := r_led_loop (p := p) (u := u) (n := n) (x4 := r_G M1 (28 * p + 5)) (x5 := b) (by omega) _ 0 _ u3 (by rw [r_ff (by decide), r_ff (by decide), c_up_s]; exact q1.1) (Nat.le_refl _) (by decide) (by decide)
          refine ⟨r, M', ?_, t1.1, a_fr_tr (r_evq e1) (a_fr_tr v1 (a_fr_tr v2 (a_fr_tr v3 t2))), t1.2.2.2.2⟩
          rw [r_ent (show e_rok 217 [192, p, u, n] = true from decide_eq_true r_ref)]
          show e_tv E_C (E_V 217) e_t217_0 [192, p, u, n, 0, 0, 0] M = _
          unfold e_t217_0
          simp [e_tv, e_ev, e_sv, e_b1, e_b2, x_o1, x_o2, r_F9, r_F10, r_F13, r_F14, r_F15, r_F16, r_F17, r_F18, r_F20, r_F21, r_F22, r_F23, r_F24, r_F27, r_F28, r_F29, r_F30, r_F33, r_F34, r_F35, r_P9, r_P10, r_P13, r_P14, r_P15, r_P16, r_P17, r_P18, r_P20, r_P21, r_P22, r_P23, r_P24, r_P27, r_P28, r_P29, r_P30, r_P33, r_P34, r_P35, r_O0, r_O1, r_O2, r_O3, r_O4, r_O5, r_O6, r_O7, r_O8, r_O11, r_O12, r_O19, r_O25, r_O26, r_O31, r_O32, r_O36, r_O37, r_O38, r_O39, ip, i1, i2, kk, q3, w1, w2, k1, l0, kb, k]
        · refine r_same (r := -3) hJ ?_
          rw [r_ent (show e_rok 217 [192, p, u, n] = true from decide_eq_true r_ref)]
          show e_tv E_C (E_V 217) e_t217_0 [192, p, u, n, 0, 0, 0] M = _
          unfold e_t217_0
          simp [e_tv, e_ev, e_sv, e_b1, e_b2, x_o1, x_o2, ip, i1, i2, kk, q3]
      · have i2 := r_in0 (M := M) q2
        refine r_same (r := -1) hJ ?_
        rw [r_ent (show e_rok 217 [192, p, u, n] = true from decide_eq_true r_ref)]
        show e_tv E_C (E_V 217) e_t217_0 [192, p, u, n, 0, 0, 0] M = _
        unfold e_t217_0
        simp [e_tv, e_ev, e_sv, e_b1, e_b2, x_o1, x_o2, ip, i1, i2]
    · have i1 := r_in0 (M := M) q1
      refine r_same (r := -1) hJ ?_
      rw [r_ent (show e_rok 217 [192, p, u, n] = true from decide_eq_true r_ref)]
      show e_tv E_C (E_V 217) e_t217_0 [192, p, u, n, 0, 0, 0] M = _
      unfold e_t217_0
      simp [e_tv, e_ev, e_sv, e_b1, e_b2, x_o1, x_o2, ip, i1]
  · have ip := r_ip0 hW q0
    refine r_same (r := -1) hJ ?_
    rw [r_ent (show e_rok 217 [192, p, u, n] = true from decide_eq_true r_ref)]
    show e_tv E_C (E_V 217) e_t217_0 [192, p, u, n, 0, 0, 0] M = _
    unfold e_t217_0
    simp [e_tv, e_ev, e_sv, e_b1, e_b2, x_o1, x_o2, ip]

