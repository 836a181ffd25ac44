theorem r_findSales {M : EM} (hJ : r_J M) : ∃ M', E_C 243 [192] M = some (0, M') ∧ r_J M' ∧ a_fr r_wq M M' ∧ r_rdy M' (-1) := by
  obtain ⟨M', k, t⟩ := r_fs_0 31 0 0 0 0 0 0 M hJ (fun l l0 l1 => by omega) (by decide) (by decide) (by decide)
  refine ⟨M', ?_, t⟩
  rw [r_ent (show e_rok 243 [192] = true from decide_eq_true r_ref)]
  show e_tv E_C (E_V 243) e_t243_0 [192, 0, 0, 0, 0, 0, 0] M = _
  unfold e_t243_0
  simp [e_tv, e_ev, e_sv, e_b1, e_b2, x_o1, x_o2, k]
theorem r_sells_loop {h : Int} {M : EM} (hh : 0 ≤ h ∧ h < 12) (hJ : r_J M) (hr : r_rdy M (-1)) : ∀ (m : Nat) (x2 x3 : Int), (h - x3).toNat ≤ m → 0 ≤ x3 → x3 ≤ h → 0 ≤ x2 → x2 ≤ r_G M 1199 → ∃ r, E_V 244 35 [192, h, x2, x3] M = some (r, M) := by
  have hz := r_Zof hJ
  obtain ⟨z1, z2, z3, -⟩ := hz
  have hend : ∀ x2 x3, ¬ (x3 < h) → 0 ≤ x2 → x2 ≤ r_G M 1199 → ∃ r, E_V 244 35 [192, h, x2, x3] M = some (r, M) := by
    intro x2 x3 q h2 h3
    have w1 : e_w (31 * h) = 31 * h := a_w_id (by omega) (by omega)
    have w2 : e_w (31 * h + x2) = 31 * h + x2 := a_w_id (by omega) (by omega)
    have l1 := r_ld11 (i := 31 * h + x2) (M := M) (by omega) (by omega)
    refine ⟨M 211 (31 * h + x2).toNat, ?_⟩
    rw [E_V_eq]
    show e_tv E_C (E_V 244) e_t244_35 [192, h, x2, x3] M = _
    unfold e_t244_35
    simp [e_tv, e_ev, e_sv, e_b1, e_b2, x_o1, x_o2, r_O38, q, w1, w2, l1]
  intro m
  induction m with
  | zero => intro x2 x3 hm h0 h1 h2 h3; exact hend x2 x3 (by omega) h2 h3
  | succ m ih =>
    intro x2 x3 hm h0 h1 h2 h3
    rcases x_lt x3 h with ⟨q, q_n⟩ | ⟨q, q_n⟩
    · have w1 : e_w (31 * x3) = 31 * x3 := a_w_id (by omega) (by omega)
      have w2 : e_w (31 * x3 + x2) = 31 * x3 + x2 := a_w_id (by omega) (by omega)
      have w3 : e_w (2 * x3) = 2 * x3 := a_w_id (by omega) (by omega)
      have w4 : e_w (1174 + 2 * x3) = 1174 + 2 * x3 := a_w_id (by omega) (by omega)
      have w5 : e_w (x3 + 1) = x3 + 1 := a_w_id (by omega) (by omega)
      have l1 := r_ld11 (i := 31 * x3 + x2) (M := M) (by omega) (by omega)
      have l2 : e_op 60 [193, 1174 + 2 * x3] M = some (r_G M (1174 + 2 * x3)) := r_rd (by omega) (by omega)
      obtain ⟨s1, s2⟩ := (hr.2 x3 x2 (by omega) (by omega) h2 h3).2
      have hs := z3 x3 h0 (by omega)
      have w6 : e_w (r_G M (1174 + 2 * x3) - M 211 (31 * x3 + x2).toNat) = r_G M (1174 + 2 * x3) - M 211 (31 * x3 + x2).toNat := a_w_id (by omega) (by omega)
      have w7 : e_w (x2 + (r_G M (1174 + 2 * x3) - M 211 (31 * x3 + x2).toNat)) = x2 + (r_G M (1174 + 2 * x3) - M 211 (31 * x3 + x2).toNat) := a_w_id (by omega) (by omega)
      obtain ⟨r, k⟩ := ih (x2 + (r_G M (1174 + 2 * x3) - M 211 (31 * x3 + x2).toNat)) (x3 + 1) (by omega) (by omega) (by omega) (by omega) (by omega)
      refine ⟨r, ?_⟩
      rw [E_V_eq]
      show e_tv E_C (E_V 244) e_t244_35 [192, h, x2, x3] M = _
      unfold e_t244_35
      simp [e_tv, e_ev, e_sv, e_b1, e_b2, x_o1, x_o2, r_O0, r_O38, q, q_n, w1, w2, w3, w4, w5, w6, w7, l1, l2, k]
    · exact hend x2 x3 q h2 h3
theorem r_sells {h : Int} {M : EM} (hJ : r_J M) : r_Q 244 [192, h] M := by
  by_cases q0 : -1 ≤ h ∧ h ≤ 11
  · have i0 := r_in1 (M := M) q0
    obtain ⟨M1, k1, t1, t2, t3⟩ := r_findSales hJ
    rcases x_lt h 0 with ⟨q1, q1_n⟩ | ⟨q1, q1_n⟩
    · have l1 := r_ld10 (i := 0) (M := M1) (by decide) (by decide)
      refine ⟨M1 210 0, M1, ?_, t1.1, t2, t1.2.2.2.2⟩
      rw [r_ent (show e_rok 244 [192, h] = true from decide_eq_true r_ref)]
      show e_tv E_C (E_V 244) e_t244_0 [192, h, 0, 0] M = _
      unfold e_t244_0
      simp [e_tv, e_ev, e_sv, e_b1, e_b2, x_o1, x_o2, r_O37, i0, k1, q1, q1_n, l1]
    · obtain ⟨r, k⟩ := r_sells_loop (h := h) ⟨by omega, by omega⟩ t1 t3 _ 0 0 (Nat.le_refl _) (by decide) (by omega) (by decide) (r_Zof t1).1
      refine ⟨r, M1, ?_, t1.1, t2, t1.2.2.2.2⟩
      rw [r_ent (show e_rok 244 [192, h] = true from decide_eq_true r_ref)]
      show e_tv E_C (E_V 244) e_t244_0 [192, h, 0, 0] M = _
      unfold e_t244_0
      simp [e_tv, e_ev, e_sv, e_b1, e_b2, x_o1, x_o2, i0, k1, q1, q1_n, k]
  · have i0 := r_in0 (M := M) q0
    refine r_same (r := -1) hJ ?_
    rw [r_ent (show e_rok 244 [192, h] = true from decide_eq_true r_ref)]
    show e_tv E_C (E_V 244) e_t244_0 [192, h, 0, 0] M = _
    unfold e_t244_0
    simp [e_tv, e_ev, e_sv, e_b1, e_b2, x_o1, x_o2, i0]

