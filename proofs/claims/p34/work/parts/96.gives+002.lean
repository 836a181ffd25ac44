theorem r_gm_fd_308 {b p : Int} {M : EM} (hE : r_E M) (hb : b ≤ 40) (hp : r_fd (r_G M) b p) : ∃ M', E_C 308 [192, p] M = some (0, M') ∧ r_ev M M' := by
  obtain ⟨a1, a2, a3, a4, a5, a6⟩ := hp
  have kk : E_C 170 [192, p] M = some (r_G M (28 * p), M) := r_kind ⟨a1, by omega⟩
  obtain ⟨M', k, hM'⟩ := r_gm_all_308 ⟨a1, by omega⟩ 6 0 M hE a5 a6 (by decide) (by decide)
  refine ⟨M', ?_, hM'⟩
  rw [r_ent (show e_rok 308 [192, p] = true from decide_eq_true r_ref)]
  show e_tv E_C (E_V 308) e_t308_0 [192, p, 0] M = _
  unfold e_t308_0
  simp [e_tv, e_ev, e_sv, e_b1, e_b2, x_o1, x_o2, kk, a3, k]
theorem r_gm_all_204 {p : Int} (hp : 0 ≤ p ∧ p < 40) : ∀ (m : Nat) (x2 : Int) (M : EM), r_E M → r_G M (28 * p + 2) ≤ 6 → (∀ k, 0 ≤ k → k < r_G M (28 * p + 2) → r_cl (r_G M) p (r_G M (28 * p + 3 + k)) ∨ r_rw (r_G M) p (r_G M (28 * p + 3 + k))) → (6 - x2).toNat ≤ m → 0 ≤ x2 → ∃ M', E_V 204 20 [192, p, x2] M = some (0, M') ∧ r_ev M M' := by
  have hend : ∀ x2 M, r_E M → ¬ (x2 < r_G M (28 * p + 2)) → ∃ M', E_V 204 20 [192, p, x2] M = some (0, M') ∧ r_ev M M' := by
    intro x2 M hE q
    have km : E_C 171 [192, p] M = some (r_G M (28 * p + 2), M) := r_many hp
    refine ⟨M, ?_, hE.1, a_fr_rf⟩
    rw [E_V_eq]
    show e_tv E_C (E_V 204) e_t204_20 [192, p, x2] M = _
    unfold e_t204_20
    simp [e_tv, e_ev, e_sv, e_b1, e_b2, x_o1, x_o2, q, km]
  intro m
  induction m with
  | zero => intro x2 M hE hn hm h5 h0; exact hend x2 M hE (by omega)
  | succ m ih =>
    intro x2 M hE hn hm h5 h0
    rcases x_lt x2 (r_G M (28 * p + 2)) with ⟨q, q_n⟩ | ⟨q, q_n⟩
    · have km : E_C 171 [192, p] M = some (r_G M (28 * p + 2), M) := r_many hp
      have w4 : e_w (x2 + 1) = x2 + 1 := a_w_id (by omega) (by omega)
      have ko : E_C 172 [192, p, x2] M = some (r_G M (28 * p + 3 + x2), M) := r_of hp ⟨h0, by omega⟩
      obtain ⟨M1, k1, e1⟩ := r_gm_lo_308 hE (by omega) (hm x2 h0 q)
      have eG := r_ev_G e1
      obtain ⟨M', k, hM'⟩ := ih (x2 + 1) M1 (r_ev_E hE e1) (by rw [eG]; exact hn) (by rw [eG]; exact hm) (by omega) (by omega)
      refine ⟨M', ?_, r_ev_tr e1 hM'⟩
      rw [E_V_eq]
      show e_tv E_C (E_V 204) e_t204_20 [192, p, x2] M = _
      unfold e_t204_20
      simp [e_tv, e_ev, e_sv, e_b1, e_b2, x_o1, x_o2, q, q_n, km, ko, k1, w4, k]
    · exact hend x2 M hE q
theorem r_gm_fd_204 {b p : Int} {M : EM} (hE : r_E M) (hb : b ≤ 40) (hp : r_fd (r_G M) b p) : ∃ M', E_C 204 [192, p] M = some (0, M') ∧ r_ev M M' := by
  obtain ⟨a1, a2, a3, a4, a5, a6⟩ := hp
  have kk : E_C 170 [192, p] M = some (r_G M (28 * p), M) := r_kind ⟨a1, by omega⟩
  obtain ⟨M', k, hM'⟩ := r_gm_all_204 ⟨a1, by omega⟩ 6 0 M hE a5 a6 (by decide) (by decide)
  refine ⟨M', ?_, hM'⟩
  rw [r_ent (show e_rok 204 [192, p] = true from decide_eq_true r_ref)]
  show e_tv E_C (E_V 204) e_t204_0 [192, p, 0] M = _
  unfold e_t204_0
  simp [e_tv, e_ev, e_sv, e_b1, e_b2, x_o1, x_o2, kk, a3, k]
theorem r_givesMore {b p : Int} {M : EM} (hE : r_E M) (hb : b ≤ 40) (hp : r_pt (r_G M) b p) : ∃ M', E_C 204 [192, p] M = some (0, M') ∧ r_ev M M' := by
  rcases hp with hp | hp | hp | hp
  · exact r_gm_lo_204 hE hb (Or.inl hp)
  · exact r_gm_lo_204 hE hb (Or.inr hp)
  · exact r_gm_fd_204 hE hb hp
  · obtain ⟨a1, a2, a3, a4, a5⟩ := hp
    have kk : E_C 170 [192, p] M = some (r_G M (28 * p), M) := r_kind ⟨a1, by omega⟩
    have km : E_C 171 [192, p] M = some (1, M) := by
      have h := r_many (M := M) (p := p) ⟨a1, by omega⟩
      rw [show M 193 (28 * p + 2).toNat = 1 from a4.1] at h
      exact h
    have ko : E_C 172 [192, p, 0] M = some (r_G M (28 * p + 3), M) := by
      have h := r_of (M := M) (p := p) (k := 0) ⟨a1, by omega⟩ ⟨by decide, by decide⟩
      rw [Int.add_zero] at h
      exact h
    have h3 : ∃ M', E_C 308 [192, r_G M (28 * p + 3)] M = some (0, M') ∧ r_ev M M' := by
      rcases a5 with h | h | h
      · exact r_gm_lo_308 hE (by omega) (Or.inl h)
      · exact r_gm_lo_308 hE (by omega) (Or.inr h)
      · exact r_gm_fd_308 hE (by omega) h
    obtain ⟨M', k, hM'⟩ := h3
    have w1 : e_w (0 + 1) = 1 := a_w_id (by decide) (by decide)
    have k2 : E_V 204 20 [192, p, 1] M' = some (0, M') := by
      have km' : E_C 171 [192, p] M' = some (1, M') := by
        have h := r_many (M := M') (p := p) ⟨a1, by omega⟩
        rw [show M' 193 (28 * p + 2).toNat = 1 from (congrFun (r_ev_G hM') _).trans a4.1] at h
        exact h
      rw [E_V_eq]
      show e_tv E_C (E_V 204) e_t204_20 [192, p, 1] M' = _
      unfold e_t204_20
      simp [e_tv, e_ev, e_sv, e_b1, e_b2, x_o1, x_o2, km']
    have k3 : E_V 204 20 [192, p, 0] M = some (0, M') := by
      rw [E_V_eq]
      show e_tv E_C (E_V 204) e_t204_20 [192, p, 0] M = _
      unfold e_t204_20
      simp [e_tv, e_ev, e_sv, e_b1, e_b2, x_o1, x_o2, km, ko, k]
      exact k2
    refine ⟨M', ?_, hM'⟩
    rw [r_ent (show e_rok 204 [192, p] = true from decide_eq_true r_ref)]
    show e_tv E_C (E_V 204) e_t204_0 [192, p, 0] M = _
    unfold e_t204_0
    simp [e_tv, e_ev, e_sv, e_b1, e_b2, x_o1, x_o2, kk, a3, k3]
theorem r_gives_loop {b p : Int} (hb : b ≤ 40) : ∀ (m : Nat) (x2 : Int) (M : EM), r_E M → r_pt (r_G M) b p → (1000 - x2).toNat ≤ m → 0 ≤ x2 → ∃ M', E_V 203 2 [192, p, x2] M = some (0, M') ∧ r_ev M M' := by
  have hend : ∀ x2 M, r_E M → r_pt (r_G M) b p → ¬ (x2 < 1000) → ∃ M', E_V 203 2 [192, p, x2] M = some (0, M') ∧ r_ev M M' := by
    intro x2 M hE hp q
    obtain ⟨M', k, hM'⟩ := r_givesMore hE hb hp
    refine ⟨M', ?_, hM'⟩
    rw [E_V_eq]
    show e_tv E_C (E_V 203) e_t203_2 [192, p, x2] M = _
    unfold e_t203_2
    simp [e_tv, e_ev, e_sv, e_b1, e_b2, x_o1, x_o2, q, k]
  intro m
  induction m with
  | zero => intro x2 M hE hp hm h0; exact hend x2 M hE hp (by omega)
  | succ m ih =>
    intro x2 M hE hp hm h0
    rcases x_lt x2 1000 with ⟨q, q_n⟩ | ⟨q, q_n⟩
    · have w4 : e_w (x2 + 1) = x2 + 1 := a_w_id (by omega) (by omega)
      have e1 := r_ev5 (M := M) (k := x2.toNat) (v := 0) hE.1 (by omega) (by decide)
      obtain ⟨M', k, hM'⟩ := ih (x2 + 1) _ (r_ev_E hE e1) (by rw [r_ev_G e1]; exact hp) (by omega) (by omega)
      refine ⟨M', ?_, r_ev_tr e1 hM'⟩
      rw [E_V_eq]
      show e_tv E_C (E_V 203) e_t203_2 [192, p, x2] M = _
      unfold e_t203_2
      simp [e_tv, e_ev, e_sv, e_b1, e_b2, x_o1, x_o2, r_O25, q, q_n, r_st5 h0 q, q_n, w4, k]
    · exact hend x2 M hE hp q
