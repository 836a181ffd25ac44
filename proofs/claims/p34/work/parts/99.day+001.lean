theorem r_st_up {k x2 y4 y6 y8 : Int} {M : EM} (hz : 0 ≤ r_G M 1200 ∧ r_G M 1200 ≤ 120) (h2 : x2 < 120) : ∀ (m : Nat) (x3 : Int), (r_G M 1200 - x3).toNat ≤ m → 0 ≤ x3 → x3 ≤ r_G M 1200 → ∃ r, E_V 227 36 [192, k, x2, x3, y4, 0, y6, 0, y8, 0] M = some (r, M) ∧ r_s01 r := by
  intro m
  induction m with
  | zero => intro x3 hm h0 h1; exact r_st_end hz h2 ⟨h0, h1⟩ (fun h => by omega)
  | succ m ih =>
    intro x3 hm h0 h1
    by_cases q : x3 < r_G M 1200 ∧ E_C 226 [192, x3] M ≠ some (0, M)
    · obtain ⟨q, q1⟩ := q
      obtain ⟨g, kg, hg⟩ := r_isGap (k := x3) (M := M) ⟨h0, by omega⟩
      have hg1 : g = 1 := by
        rcases hg with hg | hg
        · exfalso; apply q1; rw [kg, hg]
        · exact hg
      subst hg1
      have l0 : e_op 60 [193, 1200] M = some (r_G M 1200) := r_rd (by decide) (by decide)
      have w4 : e_w (x3 + 1) = x3 + 1 := a_w_id (by omega) (by omega)
      obtain ⟨r, kr, hr⟩ := ih (x3 + 1) (by omega) (by omega) (by omega)
      refine ⟨r, ?_, hr⟩
      rw [E_V_eq]
      show e_tv E_C (E_V 227) e_t227_36 [192, k, x2, x3, y4, 0, y6, 0, y8, 0] M = _
      unfold e_t227_36
      simp [e_tv, e_ev, e_sv, e_b1, e_b2, x_o1, x_o2, r_O0, q, kg, l0, w4, kr]
    · exact r_st_end hz h2 ⟨h0, h1⟩ q
theorem r_st_down {k y4 y6 y8 : Int} {M : EM} (hz : 0 ≤ r_G M 1200 ∧ r_G M 1200 ≤ 120) (hk : 0 ≤ k ∧ k ≤ r_G M 1200) : ∀ (m : Nat) (x2 : Int), (x2 + 1).toNat ≤ m → -1 ≤ x2 → x2 < 120 → ∃ r, E_V 227 18 [192, k, x2, k, y4, 0, y6, 0, y8, 0] M = some (r, M) ∧ r_s01 r := by
  have hend : ∀ x2, x2 < 120 → ¬ (0 ≤ x2 ∧ E_C 226 [192, x2] M ≠ some (0, M)) → ∃ r, E_V 227 18 [192, k, x2, k, y4, 0, y6, 0, y8, 0] M = some (r, M) ∧ r_s01 r := by
    intro x2 h1 q
    obtain ⟨r, kr, hr⟩ := r_st_up (k := k) (y4 := y4) (y6 := y6) (y8 := y8) hz h1 _ k (Nat.le_refl _) hk.1 hk.2
    refine ⟨r, ?_, hr⟩
    rcases x_le 0 x2 with ⟨q0, q0_n⟩ | ⟨q0, q0_n⟩
    · obtain ⟨g, kg, hg⟩ := r_isGap (k := x2) (M := M) ⟨q0, h1⟩
      have hg0 : g = 0 := by
        rcases hg with hg | hg
        · exact hg
        · exfalso
          apply q
          refine ⟨q0, ?_⟩
          rw [kg, hg]
          intro e
          cases e
      subst hg0
      rw [E_V_eq]
      show e_tv E_C (E_V 227) e_t227_18 [192, k, x2, k, y4, 0, y6, 0, y8, 0] M = _
      unfold e_t227_18
      simp [e_tv, e_ev, e_sv, e_b1, e_b2, x_o1, x_o2, q0, q0_n, kg, kr]
    · rw [E_V_eq]
      show e_tv E_C (E_V 227) e_t227_18 [192, k, x2, k, y4, 0, y6, 0, y8, 0] M = _
      unfold e_t227_18
      simp [e_tv, e_ev, e_sv, e_b1, e_b2, x_o1, x_o2, q0, q0_n, kr]
  intro m
  induction m with
  | zero => intro x2 hm h0 h1; exact hend x2 h1 (fun h => by omega)
  | succ m ih =>
    intro x2 hm h0 h1
    by_cases q : 0 ≤ x2 ∧ E_C 226 [192, x2] M ≠ some (0, M)
    · obtain ⟨q, q1⟩ := q
      obtain ⟨g, kg, hg⟩ := r_isGap (k := x2) (M := M) ⟨q, h1⟩
      have hg1 : g = 1 := by
        rcases hg with hg | hg
        · exfalso; apply q1; rw [kg, hg]
        · exact hg
      subst hg1
      have w4 : e_w (x2 + -1) = x2 - 1 := a_w_id (by omega) (by omega)
      obtain ⟨r, kr, hr⟩ := ih (x2 - 1) (by omega) (by omega) (by omega)
      refine ⟨r, ?_, hr⟩
      rw [E_V_eq]
      show e_tv E_C (E_V 227) e_t227_18 [192, k, x2, k, y4, 0, y6, 0, y8, 0] M = _
      unfold e_t227_18
      simp [e_tv, e_ev, e_sv, e_b1, e_b2, x_o1, x_o2, q, kg, w4, kr]
    · exact hend x2 h1 q
theorem r_strengthAt {k : Int} {M : EM} (hz : 0 ≤ r_G M 1200 ∧ r_G M 1200 ≤ 120) (hk : 0 ≤ k) : ∃ r, E_C 227 [192, k] M = some (r, M) ∧ r_s01 r := by
  have l0 : e_op 60 [193, 1200] M = some (r_G M 1200) := r_rd (by decide) (by decide)
  rcases x_le (r_G M 1200) k with ⟨q, q_n⟩ | ⟨q, q_n⟩
  · refine ⟨0, ?_, by decide, by decide⟩
    rw [r_ent (show e_rok 227 [192, k] = true from decide_eq_true r_ref)]
    show e_tv E_C (E_V 227) e_t227_0 [192, k, 0, 0, 0, 0, 0, 0, 0, 0] M = _
    unfold e_t227_0
    simp [e_tv, e_ev, e_sv, e_b1, e_b2, x_o1, x_o2, r_O0, l0, q, q_n]
  · obtain ⟨r, kr, hr⟩ := r_st_down (k := k) (y4 := 0) (y6 := 0) (y8 := 0) hz ⟨hk, by omega⟩ _ k (Nat.le_refl _) (by omega) (by omega)
    refine ⟨r, ?_, hr⟩
    rw [r_ent (show e_rok 227 [192, k] = true from decide_eq_true r_ref)]
    show e_tv E_C (E_V 227) e_t227_0 [192, k, 0, 0, 0, 0, 0, 0, 0, 0] M = _
    unfold e_t227_0
    simp [e_tv, e_ev, e_sv, e_b1, e_b2, x_o1, x_o2, r_O0, l0, q, q_n, kr]
theorem r_strength {d h : Int} {M : EM} (hJ : r_J M) : r_Q 228 [192, d, h] M := by
  have hz := hJ.2.2.1.2.2.2.2.2.2
  by_cases q0 : 0 ≤ d ∧ d ≤ 9
  · have i0 := r_in1 (M := M) q0
    by_cases q1 : 0 ≤ h ∧ h ≤ 11
    · have i1 := r_in1 (M := M) q1
      have w1 : e_w (12 * d) = 12 * d := a_w_id (by omega) (by omega)
      have w2 : e_w (12 * d + h) = 12 * d + h := a_w_id (by omega) (by omega)
      obtain ⟨r, k, -⟩ := r_strengthAt (k := 12 * d + h) hz (by omega)
      refine r_same (r := r) hJ ?_
      rw [r_ent (show e_rok 228 [192, d, h] = true from decide_eq_true r_ref)]
      show e_tv E_C (E_V 228) e_t228_0 [192, d, h] M = _
      unfold e_t228_0
      simp [e_tv, e_ev, e_sv, e_b1, e_b2, x_o1, x_o2, i0, i1, w1, w2, k]
    · have i1 := r_in0 (M := M) q1
      refine r_same (r := -1) hJ ?_
      rw [r_ent (show e_rok 228 [192, d, h] = true from decide_eq_true r_ref)]
      show e_tv E_C (E_V 228) e_t228_0 [192, d, h] M = _
      unfold e_t228_0
      simp [e_tv, e_ev, e_sv, e_b1, e_b2, x_o1, x_o2, i0, i1]
  · have i0 := r_in0 (M := M) q0
    refine r_same (r := -1) hJ ?_
    rw [r_ent (show e_rok 228 [192, d, h] = true from decide_eq_true r_ref)]
    show e_tv E_C (E_V 228) e_t228_0 [192, d, h] M = _
    unfold e_t228_0
    simp [e_tv, e_ev, e_sv, e_b1, e_b2, x_o1, x_o2, i0]
theorem r_hourPower {p d h : Int} {M : EM} (hJ : r_J M) (hp : 0 ≤ p ∧ p < r_G M 1198) (hd : 0 ≤ d ∧ d ≤ 9) (hh : 0 ≤ h ∧ h ≤ 11) : r_Q 229 [192, p, d, h] M := by
  have hE := r_J_E hJ
  have hW := hE.2.1
  have hz := hW.2.2.2.2.2.2
  have w1 : e_w (12 * d) = 12 * d := a_w_id (by omega) (by omega)
  have w2 : e_w (12 * d + h) = 12 * d + h := a_w_id (by omega) (by omega)
  obtain ⟨f1, f2, f3⟩ := r_fup (M := M) (k := 20) (v := h) (by decide) ⟨by omega, by omega⟩ hE.1
  obtain ⟨s, ks, hs⟩ := r_strengthAt (k := 12 * d + h) (M := e_up M 192 20 h) (by rw [f3]; exact hz) (by omega)
  have E1 : r_E (e_up M 192 20 h) := by
    refine ⟨f1, by rw [f3]; exact hW, ?_, ?_⟩ <;> rw [c_up_s] <;> omega
  have hs' := hs
  obtain ⟨s1, s2⟩ := hs'
  have E2 : r_E (e_up (e_up M 192 20 h) 192 21 s) := r_E_f E1 (by decide) (by decide) ⟨by omega, by omega⟩
  obtain ⟨g1, g2, g3⟩ := r_fup (M := e_up M 192 20 h) (k := 21) (v := s) (by decide) ⟨by omega, by omega⟩ f1
  obtain ⟨r, M3, k3, e3⟩ := r_bestPower E2 hW.2.1 (by rw [g3, f3]; exact r_pt_of hW hp)
  obtain ⟨h1, h2, -⟩ := r_fup (M := M3) (k := 20) (v := -1) (by decide) (by decide) e3.1
  refine ⟨r, e_up M3 192 20 (-1), ?_, h1, a_fr_tr f2 (a_fr_tr g2 (a_fr_tr (r_evq e3) h2)), c_up_s⟩
  rw [r_ent (show e_rok 229 [192, p, d, h] = true from decide_eq_true r_ref)]
  show e_tv E_C (E_V 229) e_t229_0 [192, p, d, h, 0] M = _
  unfold e_t229_0
  simp [e_tv, e_ev, e_sv, e_b1, e_b2, x_o1, x_o2, r_P20, r_P21, w1, w2, ks, k3]
