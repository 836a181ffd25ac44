/-- a row of the roof, the store, the sky -/
theorem r_J_far {M M' : EM} (hJ : r_J M) (hM : a_M M') (hf : ∀ id k, id ≠ 193 → M' id k = M id k) (hg : ∀ i, i < 1120 ∨ i = 1198 → r_G M' i = r_G M i) (hz : r_Z (r_G M')) : r_J M' := r_J_row hJ hM hf (r_W_far (r_J_E hJ).2.1 hg hz)
def r_wl3 (M : EM) (k x y h : Int) : EM := e_up (e_up (e_up M 193 (1120 + 3 * k).toNat x) 193 (1120 + 3 * k + 1).toNat y) 193 (1120 + 3 * k + 2).toNat h
theorem r_wall_eq {k x y h : Int} {M : EM} : E_C 220 [192, k, x, y, h] M = if (0 ≤ k ∧ k ≤ 9) ∧ (0 ≤ x ∧ x ≤ 19) ∧ (0 ≤ y ∧ y ≤ 11) ∧ 0 ≤ h ∧ h ≤ 30 then some (r_G M (1120 + 3 * k + 2), r_wl3 M k x y h) else some (-1, M) := by
  by_cases q0 : 0 ≤ k ∧ k ≤ 9
  · have i0 := r_in1 (M := M) q0
    by_cases q1 : 0 ≤ x ∧ x ≤ 19
    · have i1 := r_in1 (M := M) q1
      by_cases q2 : 0 ≤ y ∧ y ≤ 11
      · have i2 := r_in1 (M := M) q2
        by_cases q3 : 0 ≤ h ∧ h ≤ 30
        · have i3 := r_in1 (M := M) q3
          rw [if_pos ⟨q0, q1, q2, q3⟩]
          have w1 : e_w (3 * k) = 3 * k := a_w_id (by omega) (by omega)
          have w2 : e_w (1120 + 3 * k) = 1120 + 3 * k := a_w_id (by omega) (by omega)
          have w3 : e_w (1120 + 3 * k + 1) = 1120 + 3 * k + 1 := a_w_id (by omega) (by omega)
          have w4 : e_w (1120 + 3 * k + 2) = 1120 + 3 * k + 2 := a_w_id (by omega) (by omega)
          have d2 := fun M => r_rd (i := 1120 + 3 * k + 2) (M := M) (by omega) (by omega)
          have s0 := fun v M => r_stw (i := 1120 + 3 * k) (v := v) (M := M) (by omega) (by omega)
          have s1 := fun v M => r_stw (i := 1120 + 3 * k + 1) (v := v) (M := M) (by omega) (by omega)
          have s2 := fun v M => r_stw (i := 1120 + 3 * k + 2) (v := v) (M := M) (by omega) (by omega)
          unfold r_wl3
          rw [r_ent (show e_rok 220 [192, k, x, y, h] = true from decide_eq_true r_ref)]
          show e_tv E_C (E_V 220) e_t220_0 [192, k, x, y, h, 0] M = _
          unfold e_t220_0
          simp [e_tv, e_ev, e_sv, e_b1, e_b2, x_o1, x_o2, r_O0, i0, i1, i2, i3, w1, w2, w3, w4, d2, s0, s1, s2]
        · have i3 := r_in0 (M := M) q3
          rw [if_neg (fun e => q3 e.2.2.2)]
          rw [r_ent (show e_rok 220 [192, k, x, y, h] = true from decide_eq_true r_ref)]
          show e_tv E_C (E_V 220) e_t220_0 [192, k, x, y, h, 0] M = _
          unfold e_t220_0
          simp [e_tv, e_ev, e_sv, e_b1, e_b2, x_o1, x_o2, i0, i1, i2, i3]
      · have i2 := r_in0 (M := M) q2
        rw [if_neg (fun e => q2 e.2.2.1)]
        rw [r_ent (show e_rok 220 [192, k, x, y, h] = true from decide_eq_true r_ref)]
        show e_tv E_C (E_V 220) e_t220_0 [192, k, x, y, h, 0] M = _
        unfold e_t220_0
        simp [e_tv, e_ev, e_sv, e_b1, e_b2, x_o1, x_o2, i0, i1, i2]
    · have i1 := r_in0 (M := M) q1
      rw [if_neg (fun e => q1 e.2.1)]
      rw [r_ent (show e_rok 220 [192, k, x, y, h] = true from decide_eq_true r_ref)]
      show e_tv E_C (E_V 220) e_t220_0 [192, k, x, y, h, 0] M = _
      unfold e_t220_0
      simp [e_tv, e_ev, e_sv, e_b1, e_b2, x_o1, x_o2, i0, i1]
  · have i0 := r_in0 (M := M) q0
    rw [if_neg (fun e => q0 e.1)]
    rw [r_ent (show e_rok 220 [192, k, x, y, h] = true from decide_eq_true r_ref)]
    show e_tv E_C (E_V 220) e_t220_0 [192, k, x, y, h, 0] M = _
    unfold e_t220_0
    simp [e_tv, e_ev, e_sv, e_b1, e_b2, x_o1, x_o2, i0]
theorem r_Z_eq {g g' : Int → Int} (hz : r_Z g) (h : ∀ i, 1174 ≤ i → i ≤ 1200 → g' i = g i) : r_Z g' := by
  obtain ⟨z1, z2, z3, z4, z5⟩ := hz
  refine ⟨by rw [h _ (by decide) (by decide)]; exact z1, by rw [h _ (by decide) (by decide)]; exact z2, fun k k0 k1 => ?_, by rw [h _ (by decide) (by decide)]; exact z4, by rw [h _ (by decide) (by decide)]; exact z5⟩
  rw [h _ (by omega) (by omega), h _ (by omega) (by omega)]
  exact z3 k k0 k1
def r_wW : AW := [(193, 1120, 1149)]
theorem r_wall {k x y h : Int} {M : EM} (hJ : r_J M) : r_T r_wW 220 [192, k, x, y, h] M := by
  by_cases q : (0 ≤ k ∧ k ≤ 9) ∧ (0 ≤ x ∧ x ≤ 19) ∧ (0 ≤ y ∧ y ≤ 11) ∧ 0 ≤ h ∧ h ≤ 30
  · refine ⟨_, r_wl3 M k x y h, by rw [r_wall_eq, if_pos q], r_J_far hJ ?_ ?_ ?_ ?_, ?_⟩
    · exact r_upw ⟨by omega, by omega⟩ (r_upw ⟨by omega, by omega⟩ (r_upw ⟨by omega, by omega⟩ hJ.1))
    · intro id j hne
      exact (r_n193 hne).trans ((r_n193 hne).trans (r_n193 hne))
    · intro i hi
      exact (r_G_n (by omega) (by omega)).trans ((r_G_n (by omega) (by omega)).trans (r_G_n (by omega) (by omega)))
    · exact r_Z_eq (r_Zof hJ) (fun i i0 i1 => (r_G_n (by omega) (by omega)).trans ((r_G_n (by omega) (by omega)).trans (r_G_n (by omega) (by omega))))
    · exact a_fr_tr (r_frw (a := 1120) (b := 1149) List.mem_cons_self (by omega) (by omega)) (a_fr_tr (r_frw (a := 1120) (b := 1149) List.mem_cons_self (by omega) (by omega)) (r_frw (a := 1120) (b := 1149) List.mem_cons_self (by omega) (by omega)))
  · exact r_Ts (r := -1) hJ (by rw [r_wall_eq, if_neg q])
def r_sn2 (M : EM) (h d l : Int) : EM := e_up (e_up M 193 (1150 + 2 * h).toNat d) 193 (1150 + 2 * h + 1).toNat l
theorem r_sun_eq {h d l : Int} {M : EM} : E_C 221 [192, h, d, l] M = if (0 ≤ h ∧ h ≤ 11) ∧ (0 ≤ d ∧ d ≤ 7) ∧ 0 ≤ l ∧ l ≤ 30 then some (e_w (e_w (100 * r_G M (1150 + 2 * h)) + r_G M (1150 + 2 * h + 1)), r_sn2 M h d l) else some (-1, M) := by
  by_cases q0 : 0 ≤ h ∧ h ≤ 11
  · have i0 := r_in1 (M := M) q0
    by_cases q1 : 0 ≤ d ∧ d ≤ 7
    · have i1 := r_in1 (M := M) q1
      by_cases q2 : 0 ≤ l ∧ l ≤ 30
      · have i2 := r_in1 (M := M) q2
        rw [if_pos ⟨q0, q1, q2⟩]
        have w1 : e_w (2 * h) = 2 * h := a_w_id (by omega) (by omega)
        have w2 : e_w (1150 + 2 * h) = 1150 + 2 * h := a_w_id (by omega) (by omega)
        have w3 : e_w (1150 + 2 * h + 1) = 1150 + 2 * h + 1 := a_w_id (by omega) (by omega)
        have d1 := fun M => r_rd (i := 1150 + 2 * h) (M := M) (by omega) (by omega)
        have d2 := fun M => r_rd (i := 1150 + 2 * h + 1) (M := M) (by omega) (by omega)
        have s0 := fun v M => r_stw (i := 1150 + 2 * h) (v := v) (M := M) (by omega) (by omega)
        have s1 := fun v M => r_stw (i := 1150 + 2 * h + 1) (v := v) (M := M) (by omega) (by omega)
        unfold r_sn2
        rw [r_ent (show e_rok 221 [192, h, d, l] = true from decide_eq_true r_ref)]
        show e_tv E_C (E_V 221) e_t221_0 [192, h, d, l, 0] M = _
        unfold e_t221_0
        simp [e_tv, e_ev, e_sv, e_b1, e_b2, x_o1, x_o2, r_O0, i0, i1, i2, w1, w2, w3, d1, d2, s0, s1]
      · have i2 := r_in0 (M := M) q2
        rw [if_neg (fun e => q2 e.2.2)]
        rw [r_ent (show e_rok 221 [192, h, d, l] = true from decide_eq_true r_ref)]
        show e_tv E_C (E_V 221) e_t221_0 [192, h, d, l, 0] M = _
        unfold e_t221_0
        simp [e_tv, e_ev, e_sv, e_b1, e_b2, x_o1, x_o2, i0, i1, i2]
    · have i1 := r_in0 (M := M) q1
      rw [if_neg (fun e => q1 e.2.1)]
      rw [r_ent (show e_rok 221 [192, h, d, l] = true from decide_eq_true r_ref)]
      show e_tv E_C (E_V 221) e_t221_0 [192, h, d, l, 0] M = _
      unfold e_t221_0
      simp [e_tv, e_ev, e_sv, e_b1, e_b2, x_o1, x_o2, i0, i1]
  · have i0 := r_in0 (M := M) q0
    rw [if_neg (fun e => q0 e.1)]
    rw [r_ent (show e_rok 221 [192, h, d, l] = true from decide_eq_true r_ref)]
    show e_tv E_C (E_V 221) e_t221_0 [192, h, d, l, 0] M = _
    unfold e_t221_0
    simp [e_tv, e_ev, e_sv, e_b1, e_b2, x_o1, x_o2, i0]
