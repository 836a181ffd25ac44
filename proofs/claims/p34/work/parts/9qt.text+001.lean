theorem h_ref1 {d w : Int} {M : EM} (hd : ¬ (0 ≤ d ∧ d < 8)) : E_C 154 [8, d] M = some (-1, M) ∧ E_C 156 [-1, w] M = some (-1, M) ∧ h_no M d w = -1 := by
  refine ⟨h_154n hd, ?_, if_neg hd⟩
  rw [r_ent (show e_rok 156 [-1, w] = true from rfl)]
  show e_tv E_C (E_V 156) e_t156_0 [-1, w] M = _
  unfold e_t156_0
  simp [e_tv, e_ev, e_sv, e_b1, e_b2, x_o1, x_o2]
/-- the reference's refusal is the same -/
theorem h_189 {d w : Int} {M : EM} (hw : -1 ≤ w) : E_C 189 [192, d, w] M = some (h_no M d w, M) := by
  have s0 : E_C 189 [192, d, w] M = e_tv E_C (E_V 189) e_t189_0 [192, d, w] M := r_ent (u := 189) (as := [192, d, w]) (M := M) (decide_eq_true r_ref)
  rw [s0]
  unfold e_t189_0 h_no
  by_cases hd : 0 ≤ d ∧ d < 8
  · rw [if_pos hd]
    have i1 : E_C 173 [d] M = some (1, M) := by
      have k := r_in1 (M := M) (x := d) (lo := 0) (hi := 7) ⟨hd.1, by omega⟩
      rw [r_ent (show e_rok 173 [d] = true from rfl)]
      show e_tv E_C (E_V 173) e_t173_0 [d] M = _
      unfold e_t173_0
      simp [e_tv, e_ev, e_sv, e_b1, e_b2, x_o1, x_o2, k]
    obtain ⟨l5, l6, -⟩ := r_isD d M ⟨hd.1, by omega⟩
    generalize M 195 d.toNat = a at l5 ⊢
    generalize M 196 d.toNat = s at l6 ⊢
    by_cases q : a = 0
    · rw [if_pos q]
      simp [e_tv, e_ev, e_sv, e_b1, e_b2, x_o1, x_o2, r_O2, r_O3, i1, l5, q]
    · rw [if_neg q]
      by_cases q2 : a = 2
      · rcases x_le 0 w with ⟨q3, q3_n⟩ | ⟨q3, q3_n⟩
        · have w1 : ¬ w = -1 := by omega
          by_cases q4 : s = w
          · rw [if_pos ⟨q2, Or.inr q4.symm⟩]
            simp [e_tv, e_ev, e_sv, e_b1, e_b2, x_o1, x_o2, r_O2, r_O3, i1, l5, l6, q2, q3, q3_n, q4]
          · rw [if_neg (fun e => e.2.elim w1 (fun e => q4 e.symm))]
            simp [e_tv, e_ev, e_sv, e_b1, e_b2, x_o1, x_o2, r_O2, r_O3, i1, l5, l6, q2, q3, q3_n, q4]
        · have w1 : w = -1 := by omega
          rw [if_pos ⟨q2, Or.inl w1⟩]
          simp [e_tv, e_ev, e_sv, e_b1, e_b2, x_o1, x_o2, r_O2, r_O3, i1, l5, l6, q2, q3, q3_n]
      · rw [if_neg (fun e => q2 e.1)]
        simp [e_tv, e_ev, e_sv, e_b1, e_b2, x_o1, x_o2, r_O2, r_O3, i1, l5, q, q2]
  · rw [if_neg hd]
    have i1 : E_C 173 [d] M = some (0, M) := by
      have k := r_in0 (M := M) (x := d) (lo := 0) (hi := 7) (fun e => hd ⟨e.1, by omega⟩)
      rw [r_ent (show e_rok 173 [d] = true from rfl)]
      show e_tv E_C (E_V 173) e_t173_0 [d] M = _
      unfold e_t173_0
      simp [e_tv, e_ev, e_sv, e_b1, e_b2, x_o1, x_o2, k]
    simp [e_tv, e_ev, e_sv, e_b1, e_b2, x_o1, x_o2, i1]

