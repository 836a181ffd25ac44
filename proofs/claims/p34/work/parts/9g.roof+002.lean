def r_wS : AW := [(193, 1150, 1173)]
theorem r_sun {h d l : Int} {M : EM} (hJ : r_J M) : r_T r_wS 221 [192, h, d, l] M := by
  by_cases q : (0 ≤ h ∧ h ≤ 11) ∧ (0 ≤ d ∧ d ≤ 7) ∧ 0 ≤ l ∧ l ≤ 30
  · refine ⟨_, r_sn2 M h d l, by rw [r_sun_eq, if_pos q], r_J_far hJ ?_ ?_ ?_ ?_, ?_⟩
    · exact r_upw ⟨by omega, by omega⟩ (r_upw ⟨by omega, by omega⟩ hJ.1)
    · intro id j hne
      exact (r_n193 hne).trans (r_n193 hne)
    · intro i hi
      exact (r_G_n (by omega) (by omega)).trans (r_G_n (by omega) (by omega))
    · exact r_Z_eq (r_Zof hJ) (fun i i0 i1 => (r_G_n (by omega) (by omega)).trans (r_G_n (by omega) (by omega)))
    · exact a_fr_tr (r_frw (a := 1150) (b := 1173) List.mem_cons_self (by omega) (by omega)) (r_frw (a := 1150) (b := 1173) List.mem_cons_self (by omega) (by omega))
  · exact r_Ts (r := -1) hJ (by rw [r_sun_eq, if_neg q])
def r_tr2 (M : EM) (h t : Int) : EM := e_up (e_up M 193 (1174 + 2 * h).toNat (t / 100)) 193 (1174 + 2 * h + 1).toNat (t % 100)
theorem r_trade_eq {h t : Int} {M : EM} (ht : t ≤ 2147483647) : E_C 241 [192, h, t] M = if (0 ≤ h ∧ h ≤ 11) ∧ 0 ≤ t ∧ t / 100 ≤ 20 then some (e_w (e_w (100 * r_G M (1174 + 2 * h)) + r_G M (1174 + 2 * h + 1)), r_tr2 M h t) else some (-1, M) := by
  by_cases q0 : 0 ≤ h ∧ h ≤ 11
  · have i0 := r_in1 (M := M) q0
    rcases x_le 0 t with ⟨q1, q1_n⟩ | ⟨q1, q1_n⟩
    · obtain ⟨e1, e2⟩ := r_sq (v := t) (c := 100) ⟨q1, ht⟩ (by decide)
      rcases x_lt 20 (t / 100) with ⟨q2, q2_n⟩ | ⟨q2, q2_n⟩
      · rw [if_neg (fun e => by omega)]
        rw [r_ent (show e_rok 241 [192, h, t] = true from decide_eq_true r_ref)]
        show e_tv E_C (E_V 241) e_t241_0 [192, h, t, 0] M = _
        unfold e_t241_0
        simp [e_tv, e_ev, e_sv, e_b1, e_b2, x_o1, x_o2, i0, q1, q1_n, e1, q2, q2_n]
      · rw [if_pos ⟨q0, q1, by omega⟩]
        have w1 : e_w (2 * h) = 2 * h := a_w_id (by omega) (by omega)
        have w2 : e_w (1174 + 2 * h) = 1174 + 2 * h := a_w_id (by omega) (by omega)
        have w3 : e_w (1174 + 2 * h + 1) = 1174 + 2 * h + 1 := a_w_id (by omega) (by omega)
        have d1 := fun M => r_rd (i := 1174 + 2 * h) (M := M) (by omega) (by omega)
        have d2 := fun M => r_rd (i := 1174 + 2 * h + 1) (M := M) (by omega) (by omega)
        have s0 := fun v M => r_stw (i := 1174 + 2 * h) (v := v) (M := M) (by omega) (by omega)
        have s1 := fun v M => r_stw (i := 1174 + 2 * h + 1) (v := v) (M := M) (by omega) (by omega)
        unfold r_tr2
        rw [r_ent (show e_rok 241 [192, h, t] = true from decide_eq_true r_ref)]
        show e_tv E_C (E_V 241) e_t241_0 [192, h, t, 0] M = _
        unfold e_t241_0
        simp [e_tv, e_ev, e_sv, e_b1, e_b2, x_o1, x_o2, r_O0, i0, q1, q1_n, e1, e2, q2, q2_n, w1, w2, w3, d1, d2, s0, s1]
    · rw [if_neg (fun e => q1 e.2.1)]
      rw [r_ent (show e_rok 241 [192, h, t] = true from decide_eq_true r_ref)]
      show e_tv E_C (E_V 241) e_t241_0 [192, h, t, 0] M = _
      unfold e_t241_0
      simp [e_tv, e_ev, e_sv, e_b1, e_b2, x_o1, x_o2, i0, q1, q1_n]
  · have i0 := r_in0 (M := M) q0
    rw [if_neg (fun e => q0 e.1)]
    rw [r_ent (show e_rok 241 [192, h, t] = true from decide_eq_true r_ref)]
    show e_tv E_C (E_V 241) e_t241_0 [192, h, t, 0] M = _
    unfold e_t241_0
    simp [e_tv, e_ev, e_sv, e_b1, e_b2, x_o1, x_o2, i0]
def r_wT : AW := [(193, 1174, 1197)]
theorem r_trade {h t : Int} {M : EM} (hJ : r_J M) (ht : t ≤ 2147483647) : r_T r_wT 241 [192, h, t] M := by
  by_cases q : (0 ≤ h ∧ h ≤ 11) ∧ 0 ≤ t ∧ t / 100 ≤ 20
  · refine ⟨_, r_tr2 M h t, by rw [r_trade_eq ht, if_pos q], r_J_far hJ ?_ ?_ ?_ ?_, ?_⟩
    · exact r_upw ⟨by omega, by omega⟩ (r_upw ⟨by omega, by omega⟩ hJ.1)
    · intro id j hne
      exact (r_n193 hne).trans (r_n193 hne)
    · intro i hi
      exact (r_G_n (by omega) (by omega)).trans (r_G_n (by omega) (by omega))
    · obtain ⟨z1, z2, z3, z4, z5⟩ := r_Zof hJ
      have far : ∀ i, i < 1174 + 2 * h ∨ 1174 + 2 * h + 1 < i → r_G (r_tr2 M h t) i = r_G M i := fun i hi => (r_G_n (by omega) (by omega)).trans (r_G_n (by omega) (by omega))
      refine ⟨by rw [far _ (by omega)]; exact z1, by rw [far _ (by omega)]; exact z2, fun k k0 k1 => ?_, by rw [far _ (by omega)]; exact z4, by rw [far _ (by omega)]; exact z5⟩
      by_cases hk : k = h
      · subst hk
        have a1 : r_G (r_tr2 M k t) (1174 + 2 * k) = t / 100 := (r_G_n (by omega) (by omega)).trans r_G_s
        have a2 : r_G (r_tr2 M k t) (1174 + 2 * k + 1) = t % 100 := r_G_s
        rw [a1, a2]
        omega
      · rw [far _ (by omega), far _ (by omega)]
        exact z3 k k0 k1
    · exact a_fr_tr (r_frw (a := 1174) (b := 1197) List.mem_cons_self (by omega) (by omega)) (r_frw (a := 1174) (b := 1197) List.mem_cons_self (by omega) (by omega))
  · exact r_Ts (r := -1) hJ (by rw [r_trade_eq ht, if_neg q])
theorem r_room_eq {n : Int} {M : EM} : E_C 242 [192, n] M = if 0 ≤ n ∧ n ≤ 30 then some (r_G M 1199, e_up M 193 1199 n) else some (-1, M) := by
  by_cases q0 : 0 ≤ n ∧ n ≤ 30
  · have i0 := r_in1 (M := M) q0
    rw [if_pos q0]
    have d1 := r_rd (i := 1199) (M := M) (by decide) (by decide)
    have s0 : e_st 100 [193, 1199, n] M = some (e_up M 193 1199 n) := r_stw (i := 1199) (v := n) (M := M) (by decide) (by decide)
    rw [r_ent (show e_rok 242 [192, n] = true from decide_eq_true r_ref)]
    show e_tv E_C (E_V 242) e_t242_0 [192, n, 0] M = _
    unfold e_t242_0
    simp [e_tv, e_ev, e_sv, e_b1, e_b2, x_o1, x_o2, r_O0, i0, d1, s0]
  · have i0 := r_in0 (M := M) q0
    rw [if_neg q0]
    rw [r_ent (show e_rok 242 [192, n] = true from decide_eq_true r_ref)]
    show e_tv E_C (E_V 242) e_t242_0 [192, n, 0] M = _
    unfold e_t242_0
    simp [e_tv, e_ev, e_sv, e_b1, e_b2, x_o1, x_o2, i0]
def r_wR : AW := [(193, 1199, 1199)]
theorem r_room {n : Int} {M : EM} (hJ : r_J M) : r_T r_wR 242 [192, n] M := by
  by_cases q : 0 ≤ n ∧ n ≤ 30
  · have h1 : e_up M 193 1199 n = e_up M 193 (1199 : Int).toNat n := rfl
    refine ⟨_, e_up M 193 (1199 : Int).toNat n, by rw [r_room_eq, if_pos q, h1], r_J_far hJ ?_ ?_ ?_ ?_, ?_⟩
    · exact r_upw ⟨by omega, by omega⟩ hJ.1
    · intro id j hne
      exact r_n193 hne
    · intro i hi
      exact r_G_n (by omega) (by omega)
    · obtain ⟨z1, z2, z3, z4, z5⟩ := r_Zof hJ
      have far : ∀ i, i ≠ 1199 → r_G (e_up M 193 (1199 : Int).toNat n) i = r_G M i := fun i hi => r_G_n (by decide) hi
      have a1 : r_G (e_up M 193 (1199 : Int).toNat n) 1199 = n := r_G_s
      refine ⟨by rw [a1]; exact q.1, by rw [a1]; exact q.2, fun k k0 k1 => ?_, by rw [far _ (by omega)]; exact z4, by rw [far _ (by omega)]; exact z5⟩
      rw [far _ (by omega), far _ (by omega)]
      exact z3 k k0 k1
    · exact r_frw (a := 1199) (b := 1199) List.mem_cons_self (by decide) (by decide)
  · exact r_Ts (r := -1) hJ (by rw [r_room_eq, if_neg q])

