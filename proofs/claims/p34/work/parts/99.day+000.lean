/-! strength, hour, day, without, loss of the reference -/
theorem r_isGap {k : Int} {M : EM} (hk : 0 ≤ k ∧ k < 120) : ∃ r, E_C 226 [192, k] M = some (r, M) ∧ (r = 0 ∨ r = 1) := by
  have w1 : e_w (1202 + k) = 1202 + k := a_w_id (by omega) (by omega)
  have l1 : e_op 60 [193, 1202 + k] M = some (r_G M (1202 + k)) := r_rd (by omega) (by omega)
  have l2 : e_op 60 [193, 1201] M = some (r_G M 1201) := r_rd (by decide) (by decide)
  suffices h : ∃ z, E_C 226 [192, k] M = some (if r_G M (1202 + k) = z then 1 else 0, M) by
    obtain ⟨z, h⟩ := h
    by_cases c : r_G M (1202 + k) = z
    · exact ⟨1, by rw [h, if_pos c], Or.inr rfl⟩
    · exact ⟨0, by rw [h, if_neg c], Or.inl rfl⟩
  by_cases c1 : r_G M 1201 = 0
  · refine ⟨-128, ?_⟩
    rw [r_ent (show e_rok 226 [192, k] = true from decide_eq_true r_ref)]
    show e_tv E_C (E_V 226) e_t226_0 [192, k] M = _
    unfold e_t226_0
    by_cases c : r_G M (1202 + k) = -128
    · simp [e_tv, e_ev, e_sv, e_b1, e_b2, x_o1, x_o2, r_O0, w1, l1, l2, c1, c]
    · simp [e_tv, e_ev, e_sv, e_b1, e_b2, x_o1, x_o2, r_O0, w1, l1, l2, c1, c]
  · by_cases c2 : r_G M 1201 = 1
    · refine ⟨-32768, ?_⟩
      rw [r_ent (show e_rok 226 [192, k] = true from decide_eq_true r_ref)]
      show e_tv E_C (E_V 226) e_t226_0 [192, k] M = _
      unfold e_t226_0
      by_cases c : r_G M (1202 + k) = -32768
      · simp [e_tv, e_ev, e_sv, e_b1, e_b2, x_o1, x_o2, r_O0, w1, l1, l2, c2, c]
      · simp [e_tv, e_ev, e_sv, e_b1, e_b2, x_o1, x_o2, r_O0, w1, l1, l2, c2, c]
    · refine ⟨-2147483648, ?_⟩
      rw [r_ent (show e_rok 226 [192, k] = true from decide_eq_true r_ref)]
      show e_tv E_C (E_V 226) e_t226_0 [192, k] M = _
      unfold e_t226_0
      by_cases c : r_G M (1202 + k) = -2147483648
      · simp [e_tv, e_ev, e_sv, e_b1, e_b2, x_o1, x_o2, r_O0, w1, l1, l2, c1, c2, c]
      · simp [e_tv, e_ev, e_sv, e_b1, e_b2, x_o1, x_o2, r_O0, w1, l1, l2, c1, c2, c]
def r_s01 (r : Int) : Prop := 0 ≤ r ∧ r ≤ 100
theorem r_st_end {k x2 x3 y4 y6 y8 : Int} {M : EM} (hz : 0 ≤ r_G M 1200 ∧ r_G M 1200 ≤ 120) (h2 : x2 < 120) (h3 : 0 ≤ x3 ∧ x3 ≤ r_G M 1200) (hq : ¬ (x3 < r_G M 1200 ∧ E_C 226 [192, x3] M ≠ some (0, M))) : ∃ r, E_V 227 36 [192, k, x2, x3, y4, 0, y6, 0, y8, 0] M = some (r, M) ∧ r_s01 r := by
  have l0 : e_op 60 [193, 1200] M = some (r_G M 1200) := r_rd (by decide) (by decide)
  have hfin : ∀ z : Int, ∃ r, (if e_W ((e_W z).tdiv 2) < 0 then (0 : Int) else if 100 < e_W ((e_W z).tdiv 2) then 100 else e_w (e_W ((e_W z).tdiv 2))) = r ∧ r_s01 r := by
    intro z
    generalize e_W ((e_W z).tdiv 2) = v
    rcases x_lt v 0 with ⟨c1, c1_n⟩ | ⟨c1, c1_n⟩
    · exact ⟨0, if_pos c1, by decide, by decide⟩
    · rcases x_lt 100 v with ⟨c2, c2_n⟩ | ⟨c2, c2_n⟩
      · exact ⟨100, by rw [if_neg c1, if_pos c2], by decide, by decide⟩
      · have w : e_w v = v := a_w_id (by omega) (by omega)
        exact ⟨v, by rw [if_neg c1, if_neg c2, w], by omega, by omega⟩
  rcases x_lt x3 (r_G M 1200) with ⟨q3, q3_n⟩ | ⟨q3, q3_n⟩
  · obtain ⟨g, kg, hg⟩ := r_isGap (k := x3) (M := M) ⟨h3.1, by omega⟩
    have hg0 : g = 0 := by
      rcases hg with hg | hg
      · exact hg
      · exfalso
        apply hq
        refine ⟨q3, ?_⟩
        rw [kg, hg]
        intro e
        cases e
    subst hg0
    have w3 : e_w (1202 + x3) = 1202 + x3 := a_w_id (by omega) (by omega)
    have l3 : e_op 60 [193, 1202 + x3] M = some (r_G M (1202 + x3)) := r_rd (by omega) (by omega)
    have n3 : ¬ (x3 = r_G M 1200) := by omega
    rcases x_lt x2 0 with ⟨q2, q2_n⟩ | ⟨q2, q2_n⟩
    · obtain ⟨r, hr, hs⟩ := hfin (r_G M (1202 + x3) + r_G M (1202 + x3))
      refine ⟨r, ?_, hs⟩
      rw [← hr]
      have q2' : ¬ (0 ≤ x2) := by omega
      rw [E_V_eq]
      show e_tv E_C (E_V 227) e_t227_36 [192, k, x2, x3, y4, 0, y6, 0, y8, 0] M = _
      unfold e_t227_36
      generalize hv : e_W ((e_W (r_G M (1202 + x3) + r_G M (1202 + x3))).tdiv 2) = v
      rcases x_lt v 0 with ⟨c1, c1_n⟩ | ⟨c1, c1_n⟩
      · simp [e_tv, e_ev, e_sv, e_b1, e_b2, x_o1, x_o2, r_O0, q3, q3_n, kg, l0, l3, w3, n3, q2, q2_n, hv, c1, c1_n]
      · rcases x_lt 100 v with ⟨c2, c2_n⟩ | ⟨c2, c2_n⟩
        · simp [e_tv, e_ev, e_sv, e_b1, e_b2, x_o1, x_o2, r_O0, q3, q3_n, kg, l0, l3, w3, n3, q2, q2_n, hv, c1, c1_n, c2, c2_n]
        · simp [e_tv, e_ev, e_sv, e_b1, e_b2, x_o1, x_o2, r_O0, q3, q3_n, kg, l0, l3, w3, n3, q2, q2_n, hv, c1, c1_n, c2, c2_n]
    · have w2 : e_w (1202 + x2) = 1202 + x2 := a_w_id (by omega) (by omega)
      have l2 : e_op 60 [193, 1202 + x2] M = some (r_G M (1202 + x2)) := r_rd (by omega) (by omega)
      obtain ⟨r, hr, hs⟩ := hfin (r_G M (1202 + x2) + r_G M (1202 + x3))
      refine ⟨r, ?_, hs⟩
      rw [← hr]
      rw [E_V_eq]
      show e_tv E_C (E_V 227) e_t227_36 [192, k, x2, x3, y4, 0, y6, 0, y8, 0] M = _
      unfold e_t227_36
      generalize hv : e_W ((e_W (r_G M (1202 + x2) + r_G M (1202 + x3))).tdiv 2) = v
      rcases x_lt v 0 with ⟨c1, c1_n⟩ | ⟨c1, c1_n⟩
      · simp [e_tv, e_ev, e_sv, e_b1, e_b2, x_o1, x_o2, r_O0, q3, q3_n, kg, l0, l2, l3, w2, w3, n3, q2, q2_n, hv, c1, c1_n]
      · rcases x_lt 100 v with ⟨c2, c2_n⟩ | ⟨c2, c2_n⟩
        · simp [e_tv, e_ev, e_sv, e_b1, e_b2, x_o1, x_o2, r_O0, q3, q3_n, kg, l0, l2, l3, w2, w3, n3, q2, q2_n, hv, c1, c1_n, c2, c2_n]
        · simp [e_tv, e_ev, e_sv, e_b1, e_b2, x_o1, x_o2, r_O0, q3, q3_n, kg, l0, l2, l3, w2, w3, n3, q2, q2_n, hv, c1, c1_n, c2, c2_n]
  · have n3 : x3 = r_G M 1200 := by omega
    rcases x_lt x2 0 with ⟨q2, q2_n⟩ | ⟨q2, q2_n⟩
    · refine ⟨0, ?_, by decide, by decide⟩
      rw [E_V_eq]
      show e_tv E_C (E_V 227) e_t227_36 [192, k, x2, x3, y4, 0, y6, 0, y8, 0] M = _
      unfold e_t227_36
      simp [e_tv, e_ev, e_sv, e_b1, e_b2, x_o1, x_o2, r_O0, q3, q3_n, l0, n3, q2, q2_n]
    · have w2 : e_w (1202 + x2) = 1202 + x2 := a_w_id (by omega) (by omega)
      have l2 : e_op 60 [193, 1202 + x2] M = some (r_G M (1202 + x2)) := r_rd (by omega) (by omega)
      obtain ⟨r, hr, hs⟩ := hfin (r_G M (1202 + x2) + r_G M (1202 + x2))
      refine ⟨r, ?_, hs⟩
      rw [← hr]
      rw [E_V_eq]
      show e_tv E_C (E_V 227) e_t227_36 [192, k, x2, x3, y4, 0, y6, 0, y8, 0] M = _
      unfold e_t227_36
      generalize hv : e_W ((e_W (r_G M (1202 + x2) + r_G M (1202 + x2))).tdiv 2) = v
      rcases x_lt v 0 with ⟨c1, c1_n⟩ | ⟨c1, c1_n⟩
      · simp [e_tv, e_ev, e_sv, e_b1, e_b2, x_o1, x_o2, r_O0, q3, q3_n, l0, l2, w2, n3, q2, q2_n, hv, c1, c1_n]
      · rcases x_lt 100 v with ⟨c2, c2_n⟩ | ⟨c2, c2_n⟩
        · simp [e_tv, e_ev, e_sv, e_b1, e_b2, x_o1, x_o2, r_O0, q3, q3_n, l0, l2, w2, n3, q2, q2_n, hv, c1, c1_n, c2, c2_n]
        · simp [e_tv, e_ev, e_sv, e_b1, e_b2, x_o1, x_o2, r_O0, q3, q3_n, l0, l2, w2, n3, q2, q2_n, hv, c1, c1_n, c2, c2_n]
