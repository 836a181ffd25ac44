theorem r_gm_lo_204 {b p : Int} {M : EM} (hE : r_E M) (hb : b ≤ 40) (hp : r_cl (r_G M) b p ∨ r_rw (r_G M) b p) : ∃ M', E_C 204 [192, p] M = some (0, M') ∧ r_ev M M' := by
  have h40 := r_lo_p hb hp
  have kk : E_C 170 [192, p] M = some (r_G M (28 * p), M) := r_kind h40
  obtain ⟨M', k, hM'⟩ := r_gm_fill_204 hb 100 0 M hE hp (by decide) (by decide)
  refine ⟨M', ?_, hM'⟩
  rcases hp with hp | hp
  · have a3 := hp.2.2.1
    rw [r_ent (show e_rok 204 [192, p] = true from decide_eq_true r_ref)]
    show e_tv E_C (E_V 204) e_t204_0 [192, p, 0] M = _
    unfold e_t204_0
    simp [e_tv, e_ev, e_sv, e_b1, e_b2, x_o1, x_o2, kk, a3, k]
  · have a3 := hp.2.2.1
    rw [r_ent (show e_rok 204 [192, p] = true from decide_eq_true r_ref)]
    show e_tv E_C (E_V 204) e_t204_0 [192, p, 0] M = _
    unfold e_t204_0
    simp [e_tv, e_ev, e_sv, e_b1, e_b2, x_o1, x_o2, kk, a3, k]
theorem r_gm_fill_308 {b p : Int} (hb : b ≤ 40) : ∀ (m : Nat) (x2 : Int) (M : EM), r_E M → (r_cl (r_G M) b p ∨ r_rw (r_G M) b p) → (100 - x2).toNat ≤ m → 0 ≤ x2 → ∃ M', E_V 308 48 [192, p, x2] M = some (0, M') ∧ r_ev M M' := by
  have hend : ∀ x2 M, r_E M → ¬ (x2 < 100) → ∃ M', E_V 308 48 [192, p, x2] M = some (0, M') ∧ r_ev M M' := by
    intro x2 M hE q
    obtain ⟨M', k, hM'⟩ := r_givesBy hE.1
    refine ⟨M', ?_, hM'⟩
    rw [E_V_eq]
    show e_tv E_C (E_V 308) e_t308_48 [192, p, x2] M = _
    unfold e_t308_48
    simp [e_tv, e_ev, e_sv, e_b1, e_b2, x_o1, x_o2, q, k]
  intro m
  induction m with
  | zero => intro x2 M hE hp hm h0; exact hend x2 M hE (by omega)
  | succ m ih =>
    intro x2 M hE hp hm h0
    rcases x_lt x2 100 with ⟨q, q_n⟩ | ⟨q, q_n⟩
    · obtain ⟨l, kl, hl⟩ := r_lowPush (c := x2) hE hb hp
      have w4 : e_w (x2 + 1) = x2 + 1 := a_w_id (by omega) (by omega)
      have e1 := r_ev6 (M := M) (k := x2.toNat) (v := l) hE.1 (by omega) hl
      obtain ⟨M', k, hM'⟩ := ih (x2 + 1) _ (r_ev_E hE e1) (by rw [r_ev_G e1]; exact hp) (by omega) (by omega)
      refine ⟨M', ?_, r_ev_tr e1 hM'⟩
      rw [E_V_eq]
      show e_tv E_C (E_V 308) e_t308_48 [192, p, x2] M = _
      unfold e_t308_48
      simp [e_tv, e_ev, e_sv, e_b1, e_b2, x_o1, x_o2, r_O26, q, q_n, kl, r_st6 h0 q, q_n, w4, k]
    · exact hend x2 M hE q
theorem r_gm_lo_308 {b p : Int} {M : EM} (hE : r_E M) (hb : b ≤ 40) (hp : r_cl (r_G M) b p ∨ r_rw (r_G M) b p) : ∃ M', E_C 308 [192, p] M = some (0, M') ∧ r_ev M M' := by
  have h40 := r_lo_p hb hp
  have kk : E_C 170 [192, p] M = some (r_G M (28 * p), M) := r_kind h40
  obtain ⟨M', k, hM'⟩ := r_gm_fill_308 hb 100 0 M hE hp (by decide) (by decide)
  refine ⟨M', ?_, hM'⟩
  rcases hp with hp | hp
  · have a3 := hp.2.2.1
    rw [r_ent (show e_rok 308 [192, p] = true from decide_eq_true r_ref)]
    show e_tv E_C (E_V 308) e_t308_0 [192, p, 0] M = _
    unfold e_t308_0
    simp [e_tv, e_ev, e_sv, e_b1, e_b2, x_o1, x_o2, kk, a3, k]
  · have a3 := hp.2.2.1
    rw [r_ent (show e_rok 308 [192, p] = true from decide_eq_true r_ref)]
    show e_tv E_C (E_V 308) e_t308_0 [192, p, 0] M = _
    unfold e_t308_0
    simp [e_tv, e_ev, e_sv, e_b1, e_b2, x_o1, x_o2, kk, a3, k]
theorem r_gm_fill_309 {b p : Int} (hb : b ≤ 40) : ∀ (m : Nat) (x2 : Int) (M : EM), r_E M → (r_cl (r_G M) b p ∨ r_rw (r_G M) b p) → (100 - x2).toNat ≤ m → 0 ≤ x2 → ∃ M', E_V 309 48 [192, p, x2] M = some (0, M') ∧ r_ev M M' := by
  have hend : ∀ x2 M, r_E M → ¬ (x2 < 100) → ∃ M', E_V 309 48 [192, p, x2] M = some (0, M') ∧ r_ev M M' := by
    intro x2 M hE q
    obtain ⟨M', k, hM'⟩ := r_givesBy hE.1
    refine ⟨M', ?_, hM'⟩
    rw [E_V_eq]
    show e_tv E_C (E_V 309) e_t309_48 [192, p, x2] M = _
    unfold e_t309_48
    simp [e_tv, e_ev, e_sv, e_b1, e_b2, x_o1, x_o2, q, k]
  intro m
  induction m with
  | zero => intro x2 M hE hp hm h0; exact hend x2 M hE (by omega)
  | succ m ih =>
    intro x2 M hE hp hm h0
    rcases x_lt x2 100 with ⟨q, q_n⟩ | ⟨q, q_n⟩
    · obtain ⟨l, kl, hl⟩ := r_lowPush (c := x2) hE hb hp
      have w4 : e_w (x2 + 1) = x2 + 1 := a_w_id (by omega) (by omega)
      have e1 := r_ev6 (M := M) (k := x2.toNat) (v := l) hE.1 (by omega) hl
      obtain ⟨M', k, hM'⟩ := ih (x2 + 1) _ (r_ev_E hE e1) (by rw [r_ev_G e1]; exact hp) (by omega) (by omega)
      refine ⟨M', ?_, r_ev_tr e1 hM'⟩
      rw [E_V_eq]
      show e_tv E_C (E_V 309) e_t309_48 [192, p, x2] M = _
      unfold e_t309_48
      simp [e_tv, e_ev, e_sv, e_b1, e_b2, x_o1, x_o2, r_O26, q, q_n, kl, r_st6 h0 q, q_n, w4, k]
    · exact hend x2 M hE q
theorem r_gm_lo_309 {b p : Int} {M : EM} (hE : r_E M) (hb : b ≤ 40) (hp : r_cl (r_G M) b p ∨ r_rw (r_G M) b p) : ∃ M', E_C 309 [192, p] M = some (0, M') ∧ r_ev M M' := by
  have h40 := r_lo_p hb hp
  have kk : E_C 170 [192, p] M = some (r_G M (28 * p), M) := r_kind h40
  obtain ⟨M', k, hM'⟩ := r_gm_fill_309 hb 100 0 M hE hp (by decide) (by decide)
  refine ⟨M', ?_, hM'⟩
  rcases hp with hp | hp
  · have a3 := hp.2.2.1
    rw [r_ent (show e_rok 309 [192, p] = true from decide_eq_true r_ref)]
    show e_tv E_C (E_V 309) e_t309_0 [192, p, 0] M = _
    unfold e_t309_0
    simp [e_tv, e_ev, e_sv, e_b1, e_b2, x_o1, x_o2, kk, a3, k]
  · have a3 := hp.2.2.1
    rw [r_ent (show e_rok 309 [192, p] = true from decide_eq_true r_ref)]
    show e_tv E_C (E_V 309) e_t309_0 [192, p, 0] M = _
    unfold e_t309_0
    simp [e_tv, e_ev, e_sv, e_b1, e_b2, x_o1, x_o2, kk, a3, k]
theorem r_gm_all_308 {p : Int} (hp : 0 ≤ p ∧ p < 40) : ∀ (m : Nat) (x2 : Int) (M : EM), r_E M → r_G M (28 * p + 2) ≤ 6 → (∀ k, 0 ≤ k → k < r_G M (28 * p + 2) → r_cl (r_G M) p (r_G M (28 * p + 3 + k)) ∨ r_rw (r_G M) p (r_G M (28 * p + 3 + k))) → (6 - x2).toNat ≤ m → 0 ≤ x2 → ∃ M', E_V 308 20 [192, p, x2] M = some (0, M') ∧ r_ev M M' := by
  have hend : ∀ x2 M, r_E M → ¬ (x2 < r_G M (28 * p + 2)) → ∃ M', E_V 308 20 [192, p, x2] M = some (0, M') ∧ r_ev M M' := by
    intro x2 M hE q
    have km : E_C 171 [192, p] M = some (r_G M (28 * p + 2), M) := r_many hp
    refine ⟨M, ?_, hE.1, a_fr_rf⟩
    rw [E_V_eq]
    show e_tv E_C (E_V 308) e_t308_20 [192, p, x2] M = _
    unfold e_t308_20
    simp [e_tv, e_ev, e_sv, e_b1, e_b2, x_o1, x_o2, q, km]
  intro m
  induction m with
  | zero => intro x2 M hE hn hm h5 h0; exact hend x2 M hE (by omega)
  | succ m ih =>
    intro x2 M hE hn hm h5 h0
    rcases x_lt x2 (r_G M (28 * p + 2)) with ⟨q, q_n⟩ | ⟨q, q_n⟩
    · have km : E_C 171 [192, p] M = some (r_G M (28 * p + 2), M) := r_many hp
      have w4 : e_w (x2 + 1) = x2 + 1 := a_w_id (by omega) (by omega)
      have ko : E_C 172 [192, p, x2] M = some (r_G M (28 * p + 3 + x2), M) := r_of hp ⟨h0, by omega⟩
      obtain ⟨M1, k1, e1⟩ := r_gm_lo_309 hE (by omega) (hm x2 h0 q)
      have eG := r_ev_G e1
      obtain ⟨M', k, hM'⟩ := ih (x2 + 1) M1 (r_ev_E hE e1) (by rw [eG]; exact hn) (by rw [eG]; exact hm) (by omega) (by omega)
      refine ⟨M', ?_, r_ev_tr e1 hM'⟩
      rw [E_V_eq]
      show e_tv E_C (E_V 308) e_t308_20 [192, p, x2] M = _
      unfold e_t308_20
      simp [e_tv, e_ev, e_sv, e_b1, e_b2, x_o1, x_o2, q, q_n, km, ko, k1, w4, k]
    · exact hend x2 M hE q
