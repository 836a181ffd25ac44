theorem r_dead {p is : Int} {M : EM} (hJ : r_J M) : r_T r_wSt 197 [192, p, is] M := by
  have hW := (r_J_E hJ).2.1
  by_cases q0 : 0 ≤ p ∧ p < r_G M 1198
  · have ip := r_ip1 hW q0
    have h40 := r_40 hW q0
    have kk : E_C 170 [192, p] M = some (r_G M (28 * p), M) := r_kind h40
    by_cases q3 : r_G M (28 * p) = 0
    · have w1 : e_w (28 * p) = 28 * p := a_w_id (by omega) (by omega)
      have w2 : e_w (28 * p + 19) = 28 * p + 19 := a_w_id (by omega) (by omega)
      have l1 : e_op 60 [193, 28 * p + 19] M = some (r_G M (28 * p + 19)) := r_rd (by omega) (by omega)
      have st := fun v => r_stw (i := 28 * p + 19) (v := v) (M := M) (by omega) (by omega)
      have hset : ∀ v : Int, (v = 0 ∨ v = 1) → r_J (e_up M 193 (28 * p + 19).toNat v) ∧ a_fr (r_wSt ++ r_wq) M (e_up M 193 (28 * p + 19).toNat v) := fun v hv => ⟨r_J_row hJ (r_upw ⟨by omega, by omega⟩ hJ.1) (fun id k h => r_n193 h) (r_W_cell hW h40 q3 (by decide)), r_frp (p := p) (lo := 15) (up := 19) ⟨by omega, by omega⟩ ⟨by omega, by omega⟩⟩
      obtain ⟨b, hb⟩ : ∃ b : Int, b = if r_G M (28 * p + 19) = 1 then 1 else 0 := ⟨_, rfl⟩
      obtain ⟨n, hn⟩ : ∃ n : Int, n = if is = 0 then 0 else 1 := ⟨_, rfl⟩
      have hn1 : n = 0 ∨ n = 1 := by
        by_cases c : is = 0
        · rw [if_pos c] at hn; exact Or.inl hn
        · rw [if_neg c] at hn; exact Or.inr hn
      refine ⟨if b = is then 0 else 1, e_up M 193 (28 * p + 19).toNat n, ?_, hset n hn1⟩
      rw [r_ent (show e_rok 197 [192, p, is] = true from decide_eq_true r_ref)]
      show e_tv E_C (E_V 197) e_t197_0 [192, p, is, 0] M = _
      unfold e_t197_0
      by_cases c1 : r_G M (28 * p + 19) = 1
      · rw [if_pos c1] at hb
        subst hb
        by_cases c2 : is = 0
        · rw [if_pos c2] at hn
          subst hn
          simp [e_tv, e_ev, e_sv, e_b1, e_b2, x_o1, x_o2, r_O0, ip, kk, q3, w1, w2, l1, st, c1, c2]
        · rw [if_neg c2] at hn
          subst hn
          by_cases c3 : (1 : Int) = is
          · subst c3
            simp [e_tv, e_ev, e_sv, e_b1, e_b2, x_o1, x_o2, r_O0, ip, kk, q3, w1, w2, l1, st, c1]
          · simp [e_tv, e_ev, e_sv, e_b1, e_b2, x_o1, x_o2, r_O0, ip, kk, q3, w1, w2, l1, st, c1, c2, c3]
      · rw [if_neg c1] at hb
        subst hb
        by_cases c2 : is = 0
        · rw [if_pos c2] at hn
          subst hn
          simp [e_tv, e_ev, e_sv, e_b1, e_b2, x_o1, x_o2, r_O0, ip, kk, q3, w1, w2, l1, st, c1, c2]
        · rw [if_neg c2] at hn
          subst hn
          have c3 : ¬ ((0 : Int) = is) := fun e => c2 e.symm
          simp [e_tv, e_ev, e_sv, e_b1, e_b2, x_o1, x_o2, r_O0, ip, kk, q3, w1, w2, l1, st, c1, c2, c3]
    · refine r_Ts (r := -3) hJ ?_
      rw [r_ent (show e_rok 197 [192, p, is] = true from decide_eq_true r_ref)]
      show e_tv E_C (E_V 197) e_t197_0 [192, p, is, 0] M = _
      unfold e_t197_0
      simp [e_tv, e_ev, e_sv, e_b1, e_b2, x_o1, x_o2, ip, kk, q3]
  · have ip := r_ip0 hW q0
    refine r_Ts (r := -1) hJ ?_
    rw [r_ent (show e_rok 197 [192, p, is] = true from decide_eq_true r_ref)]
    show e_tv E_C (E_V 197) e_t197_0 [192, p, is, 0] M = _
    unfold e_t197_0
    simp [e_tv, e_ev, e_sv, e_b1, e_b2, x_o1, x_o2, ip]
theorem r_J_box {M : EM} {p j v : Int} (hJ : r_J M) (hp : 0 ≤ p ∧ p < 40) (hk : r_G M (28 * p) = 3) (hj : 4 ≤ j ∧ j ≤ 8) (hv : -2147483648 ≤ v ∧ v ≤ 2147483647) (h4 : j = 4 → 0 ≤ v) : r_J (e_up M 193 (28 * p + j).toNat v) ∧ a_fr (r_wBx ++ r_wq) M (e_up M 193 (28 * p + j).toNat v) ∧ r_G (e_up M 193 (28 * p + j).toNat v) (28 * p) = 3 :=
  ⟨r_J_row hJ (r_upw hv hJ.1) (fun id k h => r_n193 h) (r_W_box (r_J_E hJ).2.1 hp hk hj h4), r_frp (p := p) (lo := 4) (up := 8) ⟨by omega, by omega⟩ ⟨by omega, by omega⟩, (r_G_n (by omega) (by omega)).trans hk⟩
theorem r_box {p w v : Int} {M : EM} (hJ : r_J M) (hv : -2147483648 ≤ v ∧ v ≤ 2147483647) : r_T r_wBx 214 [192, p, w, v] M := by
  have hW := (r_J_E hJ).2.1
  by_cases q0 : 0 ≤ p ∧ p < r_G M 1198
  · have ip := r_ip1 hW q0
    have h40 := r_40 hW q0
    have kk : E_C 170 [192, p] M = some (r_G M (28 * p), M) := r_kind h40
    by_cases q1 : 0 ≤ w ∧ w ≤ 1
    · have i1 := r_in1 (M := M) q1
      obtain ⟨z, hz⟩ : ∃ z : Int, z = (if w = 0 then 500 else 40) := ⟨_, rfl⟩
      by_cases q2 : w ≤ v ∧ v ≤ z
      · have i2 := r_in1 (M := M) q2
        by_cases q3 : r_G M (28 * p) = 3
        · have w1 : e_w (28 * p) = 28 * p := a_w_id (by omega) (by omega)
          have w2 : e_w (28 * p + 4) = 28 * p + 4 := a_w_id (by omega) (by omega)
          have w3 : e_w (28 * p + 4 + w) = 28 * p + 4 + w := a_w_id (by omega) (by omega)
          have w4 : e_w (28 * p + 4 + 2) = 28 * p + 4 + 2 := a_w_id (by omega) (by omega)
          have w5 : e_w (28 * p + 4 + 3) = 28 * p + 4 + 3 := a_w_id (by omega) (by omega)
          have l1 : e_op 60 [193, 28 * p + 4 + w] M = some (r_G M (28 * p + 4 + w)) := r_rd (by omega) (by omega)
          have st := fun M => r_stw (i := 28 * p + 4 + w) (v := v) (M := M) (by omega) (by omega)
          have st2 := fun M => r_stw (i := 28 * p + 4 + 2) (v := 1) (M := M) (by omega) (by omega)
          have st3 := fun M => r_stw (i := 28 * p + 4 + 3) (v := 0) (M := M) (by omega) (by omega)
          have g1 : 28 * p + 4 + w = 28 * p + (4 + w) := by omega
          have g2 : 28 * p + 4 + 2 = 28 * p + 6 := by omega
          have g3 : 28 * p + 4 + 3 = 28 * p + 7 := by omega
          obtain ⟨a1, a2, a3⟩ := r_J_box (j := 4 + w) (v := v) hJ h40 q3 (by omega) hv (fun _ => by omega)
          obtain ⟨b1, b2, b3⟩ := r_J_box (j := 6) (v := 1) a1 h40 a3 (by decide) (by decide) (fun h => absurd h (by decide))
          obtain ⟨c1, c2, c3⟩ := r_J_box (j := 7) (v := 0) b1 h40 b3 (by decide) (by decide) (fun h => absurd h (by decide))
          rw [← g1] at a1 a2 b1 b2 c1 c2
          rw [← g2] at b1 b2 c1 c2
          rw [← g3] at c1 c2
          refine ⟨r_G M (28 * p + 4 + w), _, ?_, c1, a_fr_tr a2 (a_fr_tr b2 c2)⟩
          by_cases e0 : w = 0
          · rw [if_pos e0] at hz
            subst hz
            subst e0
            simp only [Int.add_zero] at w3 l1 st
            rw [r_ent (show e_rok 214 [192, p, 0, v] = true from decide_eq_true r_ref)]
            show e_tv E_C (E_V 214) e_t214_0 [192, p, 0, v, 0, 0] M = _
            unfold e_t214_0
            simp [e_tv, e_ev, e_sv, e_b1, e_b2, x_o1, x_o2, r_O0, ip, i1, i2, kk, q3, w1, w2, w3, w4, w5, l1, st, st2, st3]
          · rw [if_neg e0] at hz
            subst hz
            rw [r_ent (show e_rok 214 [192, p, w, v] = true from decide_eq_true r_ref)]
            show e_tv E_C (E_V 214) e_t214_0 [192, p, w, v, 0, 0] M = _
            unfold e_t214_0
            simp [e_tv, e_ev, e_sv, e_b1, e_b2, x_o1, x_o2, r_O0, ip, i1, i2, kk, q3, w1, w2, w3, w4, w5, l1, st, st2, st3, e0]
        · refine r_Ts (r := -3) hJ ?_
          rw [r_ent (show e_rok 214 [192, p, w, v] = true from decide_eq_true r_ref)]
          show e_tv E_C (E_V 214) e_t214_0 [192, p, w, v, 0, 0] M = _
          unfold e_t214_0
          by_cases e0 : w = 0
          · subst e0
            rw [if_pos rfl] at hz
            subst hz
            simp [e_tv, e_ev, e_sv, e_b1, e_b2, x_o1, x_o2, ip, i1, i2, kk, q3]
          · rw [if_neg e0] at hz
            subst hz
            simp [e_tv, e_ev, e_sv, e_b1, e_b2, x_o1, x_o2, ip, i1, i2, kk, q3, e0]
      · have i2 := r_in0 (M := M) q2
        refine r_Ts (r := -1) hJ ?_
        rw [r_ent (show e_rok 214 [192, p, w, v] = true from decide_eq_true r_ref)]
        show e_tv E_C (E_V 214) e_t214_0 [192, p, w, v, 0, 0] M = _
        unfold e_t214_0
        by_cases e0 : w = 0
        · subst e0
          rw [if_pos rfl] at hz
          subst hz
          simp [e_tv, e_ev, e_sv, e_b1, e_b2, x_o1, x_o2, ip, i1, i2]
        · rw [if_neg e0] at hz
          subst hz
          simp [e_tv, e_ev, e_sv, e_b1, e_b2, x_o1, x_o2, ip, i1, i2, e0]
    · have i1 := r_in0 (M := M) q1
      refine r_Ts (r := -1) hJ ?_
      rw [r_ent (show e_rok 214 [192, p, w, v] = true from decide_eq_true r_ref)]
      show e_tv E_C (E_V 214) e_t214_0 [192, p, w, v, 0, 0] M = _
      unfold e_t214_0
      simp [e_tv, e_ev, e_sv, e_b1, e_b2, x_o1, x_o2, ip, i1]
  · have ip := r_ip0 hW q0
    refine r_Ts (r := -1) hJ ?_
    rw [r_ent (show e_rok 214 [192, p, w, v] = true from decide_eq_true r_ref)]
    show e_tv E_C (E_V 214) e_t214_0 [192, p, w, v, 0, 0] M = _
    unfold e_t214_0
    simp [e_tv, e_ev, e_sv, e_b1, e_b2, x_o1, x_o2, ip]

