/-! lies: the two answers; what is told of CELLS stays related -/
theorem h_153 {v : Int} {M : EM} (hv : v ≤ 2147483647) : E_C 153 [v] M = some (if 0 ≤ v ∧ v / 100 < 20 ∧ v % 100 < 12 then 1 else 0, M) := by
  rw [r_ent (show e_rok 153 [v] = true from rfl)]
  show e_tv E_C (E_V 153) e_t153_0 [v] M = _
  unfold e_t153_0
  rcases x_le 0 v with ⟨c0, c0_n⟩ | ⟨c0, c0_n⟩
  · obtain ⟨e1, e2⟩ := r_sq (v := v) (c := 100) ⟨c0, hv⟩ (by decide)
    rcases x_lt (v / 100) 20 with ⟨c1, c1_n⟩ | ⟨c1, c1_n⟩
    · rcases x_lt (v % 100) 12 with ⟨c2, c2_n⟩ | ⟨c2, c2_n⟩
      · rw [if_pos ⟨c0, c1, c2⟩]
        simp [e_tv, e_ev, e_sv, e_b1, e_b2, x_o1, x_o2, c0, c0_n, e1, e2, c1, c1_n, c2, c2_n]
      · rw [if_neg (fun h => c2 h.2.2)]
        simp [e_tv, e_ev, e_sv, e_b1, e_b2, x_o1, x_o2, c0, c0_n, e1, e2, c1, c1_n, c2, c2_n]
    · rw [if_neg (fun h => c1 h.2.1)]
      simp [e_tv, e_ev, e_sv, e_b1, e_b2, x_o1, x_o2, c0, c0_n, e1, c1, c1_n]
  · rw [if_neg (fun h => c0 h.1)]
    simp [e_tv, e_ev, e_sv, e_b1, e_b2, x_o1, x_o2, c0, c0_n]
def h_Lq (f t : Int) : Prop := (0 ≤ f ∧ f / 100 < 20 ∧ f % 100 < 12) ∧ (0 ≤ t ∧ t / 100 < 20 ∧ t % 100 < 12) ∧ f / 100 ≤ t / 100 ∧ f % 100 ≤ t % 100
theorem h_117s {p f t : Int} {M : EM} : E_C 117 [8, p, f, t] M = e_tv E_C (E_V 117) e_t117_0 [8, p, f, t] M := r_ent (u := 117) (as := [8, p, f, t]) (M := M) (decide_eq_true c_this)
/-- refused alike: class -/
theorem h_117a {p f t i : Int} {M : EM} (ip : E_C 149 [8, p] M = some (i, M)) (hf : f ≤ 2147483647) (ht : t ≤ 2147483647) (h : i = 0 ∨ ¬ h_Lq f t) : E_C 117 [8, p, f, t] M = some (-1, M) := by
  rw [h_117s]
  unfold e_t117_0
  by_cases c : i = 0
  · simp [e_tv, e_ev, e_sv, e_b1, e_b2, x_o1, x_o2, ip, c]
  · have k1 := h_153 (M := M) hf
    have k2 := h_153 (M := M) ht
    have h := h.resolve_left c
    by_cases q1 : 0 ≤ f ∧ f / 100 < 20 ∧ f % 100 < 12
    · rw [if_pos q1] at k1
      obtain ⟨e1, e2⟩ := r_sq (v := f) (c := 100) ⟨q1.1, hf⟩ (by decide)
      by_cases q2 : 0 ≤ t ∧ t / 100 < 20 ∧ t % 100 < 12
      · rw [if_pos q2] at k2
        obtain ⟨e3, e4⟩ := r_sq (v := t) (c := 100) ⟨q2.1, ht⟩ (by decide)
        rcases x_le (f / 100) (t / 100) with ⟨q3, q3_n⟩ | ⟨q3, q3_n⟩
        · have q4 : t % 100 < f % 100 := by
            refine Int.not_le.mp fun e => h ⟨q1, q2, q3, e⟩
          simp [e_tv, e_ev, e_sv, e_b1, e_b2, x_o1, x_o2, ip, c, k1, k2, e1, e2, e3, e4, q3, q3_n, q4]
        · simp [e_tv, e_ev, e_sv, e_b1, e_b2, x_o1, x_o2, ip, c, k1, k2, e1, e3, q3, q3_n]
      · rw [if_neg q2] at k2
        simp [e_tv, e_ev, e_sv, e_b1, e_b2, x_o1, x_o2, ip, c, k1, k2]
    · rw [if_neg q1] at k1
      simp [e_tv, e_ev, e_sv, e_b1, e_b2, x_o1, x_o2, ip, c, k1]
theorem h_219a {p f t i : Int} {M : EM} (ip : E_C 169 [192, p] M = some (i, M)) (hf : f ≤ 2147483647) (ht : t ≤ 2147483647) (h : i = 0 ∨ ¬ h_Lq f t) : E_C 219 [192, p, f, t] M = some (-1, M) := by
  rw [r_ent (show e_rok 219 [192, p, f, t] = true from decide_eq_true r_ref)]
  show e_tv E_C (E_V 219) e_t219_0 [192, p, f, t, 0] M = _
  unfold e_t219_0
  by_cases c : i = 0
  · simp [e_tv, e_ev, e_sv, e_b1, e_b2, x_o1, x_o2, ip, c]
  · have k1 := r_isSquare (M := M) hf
    have k2 := r_isSquare (M := M) ht
    have h := h.resolve_left c
    by_cases q1 : 0 ≤ f ∧ f / 100 < 20 ∧ f % 100 < 12
    · rw [if_pos q1] at k1
      obtain ⟨e1, e2⟩ := r_sq (v := f) (c := 100) ⟨q1.1, hf⟩ (by decide)
      by_cases q2 : 0 ≤ t ∧ t / 100 < 20 ∧ t % 100 < 12
      · rw [if_pos q2] at k2
        obtain ⟨e3, e4⟩ := r_sq (v := t) (c := 100) ⟨q2.1, ht⟩ (by decide)
        rcases x_le (f / 100) (t / 100) with ⟨q3, q3_n⟩ | ⟨q3, q3_n⟩
        · have q4 : t % 100 < f % 100 := by
            refine Int.not_le.mp fun e => h ⟨q1, q2, q3, e⟩
          simp [e_tv, e_ev, e_sv, e_b1, e_b2, x_o1, x_o2, ip, c, k1, k2, e1, e2, e3, e4, q3, q3_n, q4]
        · simp [e_tv, e_ev, e_sv, e_b1, e_b2, x_o1, x_o2, ip, c, k1, k2, e1, e3, q3, q3_n]
      · rw [if_neg q2] at k2
        simp [e_tv, e_ev, e_sv, e_b1, e_b2, x_o1, x_o2, ip, c, k1, k2]
    · rw [if_neg q1] at k1
      simp [e_tv, e_ev, e_sv, e_b1, e_b2, x_o1, x_o2, ip, c, k1]
theorem h_117b {p f t : Int} {M : EM} (ip : E_C 149 [8, p] M = some (1, M)) (j : E_C 150 [8, p, 0] M = some (0, M)) (hf : f ≤ 2147483647) (ht : t ≤ 2147483647) (h : h_Lq f t) : E_C 117 [8, p, f, t] M = some (-3, M) := by
  obtain ⟨q1, q2, q3, q4⟩ := h
  have k1 := h_153 (M := M) hf
  have k2 := h_153 (M := M) ht
  rw [if_pos q1] at k1
  rw [if_pos q2] at k2
  obtain ⟨e1, e2⟩ := r_sq (v := f) (c := 100) ⟨q1.1, hf⟩ (by decide)
  obtain ⟨e3, e4⟩ := r_sq (v := t) (c := 100) ⟨q2.1, ht⟩ (by decide)
  have q5 : ¬ t % 100 < f % 100 := Int.not_lt.mpr q4
  rw [h_117s]
  unfold e_t117_0
  simp [e_tv, e_ev, e_sv, e_b1, e_b2, x_o1, x_o2, ip, j, k1, k2, e1, e2, e3, e4, q3, q4, q5]
theorem h_219b {p f t k : Int} {M : EM} (ip : E_C 169 [192, p] M = some (1, M)) (kk : E_C 170 [192, p] M = some (k, M)) (hk : k ≠ 0) (hf : f ≤ 2147483647) (ht : t ≤ 2147483647) (h : h_Lq f t) : E_C 219 [192, p, f, t] M = some (-3, M) := by
  obtain ⟨q1, q2, q3, q4⟩ := h
  have k1 := r_isSquare (M := M) hf
  have k2 := r_isSquare (M := M) ht
  rw [if_pos q1] at k1
  rw [if_pos q2] at k2
  obtain ⟨e1, e2⟩ := r_sq (v := f) (c := 100) ⟨q1.1, hf⟩ (by decide)
  obtain ⟨e3, e4⟩ := r_sq (v := t) (c := 100) ⟨q2.1, ht⟩ (by decide)
  have q5 : ¬ t % 100 < f % 100 := Int.not_lt.mpr q4
  rw [r_ent (show e_rok 219 [192, p, f, t] = true from decide_eq_true r_ref)]
  show e_tv E_C (E_V 219) e_t219_0 [192, p, f, t, 0] M = _
  unfold e_t219_0
  simp [e_tv, e_ev, e_sv, e_b1, e_b2, x_o1, x_o2, ip, kk, hk, k1, k2, e1, e2, e3, e4, q3, q4, q5]
theorem h_117c {p f t : Int} {M : EM} (hp : 0 ≤ p ∧ p < 40) (ip : E_C 149 [8, p] M = some (1, M)) (j : E_C 150 [8, p, 0] M = some (1, M)) (hf : f ≤ 2147483647) (ht : t ≤ 2147483647) (h : h_Lq f t) : E_C 117 [8, p, f, t] M = some (e_w (e_w (e_w (t / 100 - f / 100) + 1) * e_w (e_w (t % 100 - f % 100) + 1)), e_up (e_up M 23 p.toNat f) 24 p.toNat t) := by
  obtain ⟨q1, q2, q3, q4⟩ := h
  have k1 := h_153 (M := M) hf
  have k2 := h_153 (M := M) ht
  rw [if_pos q1] at k1
  rw [if_pos q2] at k2
  obtain ⟨e1, e2⟩ := r_sq (v := f) (c := 100) ⟨q1.1, hf⟩ (by decide)
  obtain ⟨e3, e4⟩ := r_sq (v := t) (c := 100) ⟨q2.1, ht⟩ (by decide)
  have q5 : ¬ t % 100 < f % 100 := Int.not_lt.mpr q4
  have l1 : ∀ v M, E_C 147 [23, p, v] M = some (0, e_up M 23 p.toNat v) := fun v M => p_layd (a := 23) (n := 40) (by decide +kernel) ⟨hp.1, by omega⟩ M
  have l2 : ∀ v M, E_C 147 [24, p, v] M = some (0, e_up M 24 p.toNat v) := fun v M => p_layd (a := 24) (n := 40) (by decide +kernel) ⟨hp.1, by omega⟩ M
  rw [h_117s]
  unfold e_t117_0
  simp [e_tv, e_ev, e_sv, e_b1, e_b2, x_o1, x_o2, p_704, w_H1, w_C4, w_C5, ip, j, k1, k2, e1, e2, e3, e4, q3, q4, q5, l1, l2]
theorem h_219c {p f t : Int} {M : EM} (h40 : 0 ≤ p ∧ p < 40) (ip : E_C 169 [192, p] M = some (1, M)) (kk : E_C 170 [192, p] M = some (0, M)) (hf : f ≤ 2147483647) (ht : t ≤ 2147483647) (h : h_Lq f t) : E_C 219 [192, p, f, t] M = some (e_w (e_w (e_w (t / 100 - f / 100) + 1) * e_w (e_w (t % 100 - f % 100) + 1)), r_lay5 M p (f / 100) (f % 100) (t / 100) (t % 100)) := by
  obtain ⟨q1, q2, q3, q4'⟩ := h
  have k1 := r_isSquare (M := M) hf
  have k2 := r_isSquare (M := M) ht
  rw [if_pos q1] at k1
  rw [if_pos q2] at k2
  obtain ⟨e1, e2⟩ := r_sq (v := f) (c := 100) ⟨q1.1, hf⟩ (by decide)
  obtain ⟨e3, e4⟩ := r_sq (v := t) (c := 100) ⟨q2.1, ht⟩ (by decide)
  have q4 : ¬ t % 100 < f % 100 := Int.not_lt.mpr q4'
  have w1 : e_w (28 * p) = 28 * p := a_w_id (by omega) (by omega)
  have w2 : e_w (28 * p + 20) = 28 * p + 20 := a_w_id (by omega) (by omega)
  have v1 : e_w (28 * p + 20 + 1) = 28 * p + 20 + 1 := a_w_id (by omega) (by omega)
  have v2 : e_w (28 * p + 20 + 2) = 28 * p + 20 + 2 := a_w_id (by omega) (by omega)
  have v3 : e_w (28 * p + 20 + 3) = 28 * p + 20 + 3 := a_w_id (by omega) (by omega)
  have v4 : e_w (28 * p + 20 + 4) = 28 * p + 20 + 4 := a_w_id (by omega) (by omega)
  have s0 := fun v M => r_stw (i := 28 * p + 20) (v := v) (M := M) (by omega) (by omega)
  have s1 := fun v M => r_stw (i := 28 * p + 20 + 1) (v := v) (M := M) (by omega) (by omega)
  have s2 := fun v M => r_stw (i := 28 * p + 20 + 2) (v := v) (M := M) (by omega) (by omega)
  have s3 := fun v M => r_stw (i := 28 * p + 20 + 3) (v := v) (M := M) (by omega) (by omega)
  have s4 := fun v M => r_stw (i := 28 * p + 20 + 4) (v := v) (M := M) (by omega) (by omega)
  have d1 := fun M => r_rd (i := 28 * p + 20 + 1) (M := M) (by omega) (by omega)
  have d2 := fun M => r_rd (i := 28 * p + 20 + 2) (M := M) (by omega) (by omega)
  have d3 := fun M => r_rd (i := 28 * p + 20 + 3) (M := M) (by omega) (by omega)
  have d4 := fun M => r_rd (i := 28 * p + 20 + 4) (M := M) (by omega) (by omega)
  have hg := r_lay5_G (M := M) (p := p) (a := f / 100) (b := f % 100) (c := t / 100) (d := t % 100) h40
  obtain ⟨g0, g1, g2, g3, g4, -⟩ := hg
  unfold r_lay5 at g1 g2 g3 g4 ⊢
  rw [r_ent (show e_rok 219 [192, p, f, t] = true from decide_eq_true r_ref)]
  show e_tv E_C (E_V 219) e_t219_0 [192, p, f, t, 0] M = _
  unfold e_t219_0
  simp [e_tv, e_ev, e_sv, e_b1, e_b2, x_o1, x_o2, r_O0, ip, kk, k1, k2, e1, e2, e3, e4, q3, q4, w1, w2, v1, v2, v3, v4, s0, s1, s2, s3, s4, d1, d2, d3, d4, g1, g2, g3, g4]
