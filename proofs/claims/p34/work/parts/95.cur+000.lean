/-! CURRENT at a PUSH, by the reference: the method is there once for each PART in a PART -/
theorem r_cur_down_202 {b p u : Int} {M : EM} (hE : r_E M) (hb : b ≤ 40) (hp : r_cl (r_G M) b p ∨ r_rw (r_G M) b p) : ∀ (m : Nat) (x3 x4 : Int), x3.toNat ≤ m → 0 ≤ x3 → x3 ≤ 99 → ∃ r, E_V 202 71 [192, p, u, x3, x4] M = some (r, M) ∧ -2147483648 ≤ r ∧ r ≤ 2147483647 := by
  intro m
  induction m with
  | zero =>
    intro x3 x4 h5 h0 h1
    have q : x3 = 0 := by omega
    refine ⟨0, ?_, by decide, by decide⟩
    subst q
    rw [E_V_eq]
    show e_tv E_C (E_V 202) e_t202_71 [192, p, u, 0, x4] M = _
    unfold e_t202_71
    simp [e_tv, e_ev, e_sv, e_b1, e_b2, x_o1, x_o2]
  | succ m ih =>
    intro x3 x4 h5 h0 h1
    obtain ⟨l, kl, hl⟩ := r_lowPush (c := x3) hE hb hp
    rcases x_lt 0 x3 with ⟨q, q_n⟩ | ⟨q, q_n⟩
    · rcases x_lt l u with ⟨c1, c1_n⟩ | ⟨c1, c1_n⟩
      · have w4 : e_w (x3 + -1) = x3 - 1 := a_w_id (by omega) (by omega)
        obtain ⟨r, k, hr⟩ := ih (x3 - 1) x4 (by omega) (by omega) (by omega)
        refine ⟨r, ?_, hr⟩
        rw [E_V_eq]
        show e_tv E_C (E_V 202) e_t202_71 [192, p, u, x3, x4] M = _
        unfold e_t202_71
        simp [e_tv, e_ev, e_sv, e_b1, e_b2, x_o1, x_o2, q, q_n, kl, c1, c1_n, w4, k]
      · refine ⟨x3, ?_, by omega, by omega⟩
        rw [E_V_eq]
        show e_tv E_C (E_V 202) e_t202_71 [192, p, u, x3, x4] M = _
        unfold e_t202_71
        simp [e_tv, e_ev, e_sv, e_b1, e_b2, x_o1, x_o2, q, q_n, kl, c1, c1_n]
    · refine ⟨x3, ?_, by omega, by omega⟩
      rw [E_V_eq]
      show e_tv E_C (E_V 202) e_t202_71 [192, p, u, x3, x4] M = _
      unfold e_t202_71
      simp [e_tv, e_ev, e_sv, e_b1, e_b2, x_o1, x_o2, q, q_n]
theorem r_cur_lo_202 {b p u : Int} {M : EM} (hE : r_E M) (hb : b ≤ 40) (hp : r_cl (r_G M) b p ∨ r_rw (r_G M) b p) : r_P 202 [192, p, u] M := by
  have h40 := r_lo_p hb hp
  have kk : E_C 170 [192, p] M = some (r_G M (28 * p), M) := r_kind h40
  obtain ⟨r, k, hr⟩ := r_cur_down_202 (u := u) hE hb hp 99 99 0 (by decide) (by decide) (by decide)
  refine ⟨r, ?_, hr⟩
  rcases hp with hp | hp
  · have a3 := hp.2.2.1
    rw [r_ent (show e_rok 202 [192, p, u] = true from decide_eq_true r_ref)]
    show e_tv E_C (E_V 202) e_t202_0 [192, p, u, 0, 0] M = _
    unfold e_t202_0
    simp [e_tv, e_ev, e_sv, e_b1, e_b2, x_o1, x_o2, kk, a3, k]
  · have a3 := hp.2.2.1
    rw [r_ent (show e_rok 202 [192, p, u] = true from decide_eq_true r_ref)]
    show e_tv E_C (E_V 202) e_t202_0 [192, p, u, 0, 0] M = _
    unfold e_t202_0
    simp [e_tv, e_ev, e_sv, e_b1, e_b2, x_o1, x_o2, kk, a3, k]
theorem r_cur_down_306 {b p u : Int} {M : EM} (hE : r_E M) (hb : b ≤ 40) (hp : r_cl (r_G M) b p ∨ r_rw (r_G M) b p) : ∀ (m : Nat) (x3 x4 : Int), x3.toNat ≤ m → 0 ≤ x3 → x3 ≤ 99 → ∃ r, E_V 306 71 [192, p, u, x3, x4] M = some (r, M) ∧ -2147483648 ≤ r ∧ r ≤ 2147483647 := by
  intro m
  induction m with
  | zero =>
    intro x3 x4 h5 h0 h1
    have q : x3 = 0 := by omega
    refine ⟨0, ?_, by decide, by decide⟩
    subst q
    rw [E_V_eq]
    show e_tv E_C (E_V 306) e_t306_71 [192, p, u, 0, x4] M = _
    unfold e_t306_71
    simp [e_tv, e_ev, e_sv, e_b1, e_b2, x_o1, x_o2]
  | succ m ih =>
    intro x3 x4 h5 h0 h1
    obtain ⟨l, kl, hl⟩ := r_lowPush (c := x3) hE hb hp
    rcases x_lt 0 x3 with ⟨q, q_n⟩ | ⟨q, q_n⟩
    · rcases x_lt l u with ⟨c1, c1_n⟩ | ⟨c1, c1_n⟩
      · have w4 : e_w (x3 + -1) = x3 - 1 := a_w_id (by omega) (by omega)
        obtain ⟨r, k, hr⟩ := ih (x3 - 1) x4 (by omega) (by omega) (by omega)
        refine ⟨r, ?_, hr⟩
        rw [E_V_eq]
        show e_tv E_C (E_V 306) e_t306_71 [192, p, u, x3, x4] M = _
        unfold e_t306_71
        simp [e_tv, e_ev, e_sv, e_b1, e_b2, x_o1, x_o2, q, q_n, kl, c1, c1_n, w4, k]
      · refine ⟨x3, ?_, by omega, by omega⟩
        rw [E_V_eq]
        show e_tv E_C (E_V 306) e_t306_71 [192, p, u, x3, x4] M = _
        unfold e_t306_71
        simp [e_tv, e_ev, e_sv, e_b1, e_b2, x_o1, x_o2, q, q_n, kl, c1, c1_n]
    · refine ⟨x3, ?_, by omega, by omega⟩
      rw [E_V_eq]
      show e_tv E_C (E_V 306) e_t306_71 [192, p, u, x3, x4] M = _
      unfold e_t306_71
      simp [e_tv, e_ev, e_sv, e_b1, e_b2, x_o1, x_o2, q, q_n]
theorem r_cur_lo_306 {b p u : Int} {M : EM} (hE : r_E M) (hb : b ≤ 40) (hp : r_cl (r_G M) b p ∨ r_rw (r_G M) b p) : r_P 306 [192, p, u] M := by
  have h40 := r_lo_p hb hp
  have kk : E_C 170 [192, p] M = some (r_G M (28 * p), M) := r_kind h40
  obtain ⟨r, k, hr⟩ := r_cur_down_306 (u := u) hE hb hp 99 99 0 (by decide) (by decide) (by decide)
  refine ⟨r, ?_, hr⟩
  rcases hp with hp | hp
  · have a3 := hp.2.2.1
    rw [r_ent (show e_rok 306 [192, p, u] = true from decide_eq_true r_ref)]
    show e_tv E_C (E_V 306) e_t306_0 [192, p, u, 0, 0] M = _
    unfold e_t306_0
    simp [e_tv, e_ev, e_sv, e_b1, e_b2, x_o1, x_o2, kk, a3, k]
  · have a3 := hp.2.2.1
    rw [r_ent (show e_rok 306 [192, p, u] = true from decide_eq_true r_ref)]
    show e_tv E_C (E_V 306) e_t306_0 [192, p, u, 0, 0] M = _
    unfold e_t306_0
    simp [e_tv, e_ev, e_sv, e_b1, e_b2, x_o1, x_o2, kk, a3, k]
theorem r_cur_down_307 {b p u : Int} {M : EM} (hE : r_E M) (hb : b ≤ 40) (hp : r_cl (r_G M) b p ∨ r_rw (r_G M) b p) : ∀ (m : Nat) (x3 x4 : Int), x3.toNat ≤ m → 0 ≤ x3 → x3 ≤ 99 → ∃ r, E_V 307 71 [192, p, u, x3, x4] M = some (r, M) ∧ -2147483648 ≤ r ∧ r ≤ 2147483647 := by
  intro m
  induction m with
  | zero =>
    intro x3 x4 h5 h0 h1
    have q : x3 = 0 := by omega
    refine ⟨0, ?_, by decide, by decide⟩
    subst q
    rw [E_V_eq]
    show e_tv E_C (E_V 307) e_t307_71 [192, p, u, 0, x4] M = _
    unfold e_t307_71
    simp [e_tv, e_ev, e_sv, e_b1, e_b2, x_o1, x_o2]
  | succ m ih =>
    intro x3 x4 h5 h0 h1
    obtain ⟨l, kl, hl⟩ := r_lowPush (c := x3) hE hb hp
    rcases x_lt 0 x3 with ⟨q, q_n⟩ | ⟨q, q_n⟩
    · rcases x_lt l u with ⟨c1, c1_n⟩ | ⟨c1, c1_n⟩
      · have w4 : e_w (x3 + -1) = x3 - 1 := a_w_id (by omega) (by omega)
        obtain ⟨r, k, hr⟩ := ih (x3 - 1) x4 (by omega) (by omega) (by omega)
        refine ⟨r, ?_, hr⟩
        rw [E_V_eq]
        show e_tv E_C (E_V 307) e_t307_71 [192, p, u, x3, x4] M = _
        unfold e_t307_71
        simp [e_tv, e_ev, e_sv, e_b1, e_b2, x_o1, x_o2, q, q_n, kl, c1, c1_n, w4, k]
      · refine ⟨x3, ?_, by omega, by omega⟩
        rw [E_V_eq]
        show e_tv E_C (E_V 307) e_t307_71 [192, p, u, x3, x4] M = _
        unfold e_t307_71
        simp [e_tv, e_ev, e_sv, e_b1, e_b2, x_o1, x_o2, q, q_n, kl, c1, c1_n]
    · refine ⟨x3, ?_, by omega, by omega⟩
      rw [E_V_eq]
      show e_tv E_C (E_V 307) e_t307_71 [192, p, u, x3, x4] M = _
      unfold e_t307_71
      simp [e_tv, e_ev, e_sv, e_b1, e_b2, x_o1, x_o2, q, q_n]
