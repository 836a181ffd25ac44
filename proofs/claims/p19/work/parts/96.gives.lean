section
/-! what a PART gives at each PUSH: rows 205 and 206 alone are written -/
def r_wg : AW := [(205, 0, 999), (206, 0, 99)]
def r_ev (M M' : EM) : Prop := a_M M' ∧ a_fr r_wg M M'
theorem r_ev_tr {M M1 M2 : EM} (h1 : r_ev M M1) (h2 : r_ev M1 M2) : r_ev M M2 := ⟨h2.1, a_fr_tr h1.2 h2.2⟩
theorem r_ev_same {M M' : EM} (h : r_ev M M') {id k : Nat} (h5 : id ≠ 205) (h6 : id ≠ 206) : M' id k = M id k := h.2 id k (fun w hw hc => by
  rcases List.mem_cons.mp hw with rfl | hw
  · exact h5 hc.1.symm
  · cases List.mem_singleton.mp hw
    exact h6 hc.1.symm)
theorem r_ev_G {M M' : EM} (h : r_ev M M') : r_G M' = r_G M := by
  funext i
  exact r_ev_same h (by decide) (by decide)
theorem r_ev_E {M M' : EM} (hE : r_E M) (h : r_ev M M') : r_E M' := by
  obtain ⟨e1, e2, e3, e4⟩ := hE
  refine ⟨h.1, by rw [r_ev_G h]; exact e2, ?_, ?_⟩ <;> rw [r_ev_same h (by decide) (by decide)] <;> assumption
theorem r_ev5 {M : EM} {k : Nat} {v : Int} (hM : a_M M) (hk : k < 1000) (hv : -2147483648 ≤ v ∧ v ≤ 2147483647) : r_ev M (e_up M 205 k v) := by
  refine ⟨r_up (by decide) (by decide +kernel) (by decide +kernel) hv hM, fun b j hw => c_up_n (fun hc => hw _ List.mem_cons_self ⟨hc.1.symm, Nat.zero_le _, ?_⟩)⟩
  have := hc.2
  show j ≤ 999
  omega
theorem r_ev6 {M : EM} {k : Nat} {v : Int} (hM : a_M M) (hk : k < 100) (hv : -2147483648 ≤ v ∧ v ≤ 2147483647) : r_ev M (e_up M 206 k v) := by
  refine ⟨r_up (by decide) (by decide +kernel) (by decide +kernel) hv hM, fun b j hw => c_up_n (fun hc => hw _ (List.mem_cons_of_mem _ List.mem_cons_self) ⟨hc.1.symm, Nat.zero_le _, ?_⟩)⟩
  have := hc.2
  show j ≤ 99
  omega
theorem r_rd5 {i : Int} {M : EM} (h0 : 0 ≤ i) (hi : i < 1000) : e_op 60 [205, i] M = some (M 205 i.toNat) := r_ld (n := 1000) (by decide) (by decide +kernel) (by decide +kernel) h0 hi
theorem r_rd6 {i : Int} {M : EM} (h0 : 0 ≤ i) (hi : i < 100) : e_op 60 [206, i] M = some (M 206 i.toNat) := r_ld (n := 100) (by decide) (by decide +kernel) (by decide +kernel) h0 hi
theorem r_st5 {i v : Int} {M : EM} (h0 : 0 ≤ i) (hi : i < 1000) : e_st 100 [205, i, v] M = some (e_up M 205 i.toNat v) := r_st (n := 1000) (by decide) (by decide +kernel) (by decide +kernel) h0 hi
theorem r_st6 {i v : Int} {M : EM} (h0 : 0 ≤ i) (hi : i < 100) : e_st 100 [206, i, v] M = some (e_up M 206 i.toNat v) := r_st (n := 100) (by decide) (by decide +kernel) (by decide +kernel) h0 hi
theorem r_by_in {x2 : Int} (h2 : 0 ≤ x2 ∧ x2 < 1000) (H : ∀ x1 M, a_M M → 0 ≤ x1 → x1 ≤ 99 → ∃ M', E_V 205 5 [192, x1, x2 + 1] M = some (0, M') ∧ r_ev M M') : ∀ (m : Nat) (x1 : Int) (M : EM), a_M M → x1.toNat ≤ m → 0 ≤ x1 → x1 ≤ 99 → ∃ M', E_V 205 12 [192, x1, x2] M = some (0, M') ∧ r_ev M M' := by
  have w2 : e_w (x2 + 1) = x2 + 1 := a_w_id (by omega) (by omega)
  have hend : ∀ x1 M, a_M M → 0 ≤ x1 → x1 ≤ 99 → (∀ v, e_op 60 [206, x1] M = some v → ¬ (0 < x1 ∧ v < x2)) → ∃ M', E_V 205 12 [192, x1, x2] M = some (0, M') ∧ r_ev M M' := by
    intro x1 M hM h0 h1 hq
    have hv := hq _ (r_rd6 h0 (by omega))
    have g1 := r_rd6 (M := M) h0 (by omega)
    have g2 := r_rd5 (M := M) h2.1 h2.2
    have e1 := r_ev5 (M := M) (k := x2.toNat) (v := e_w (M 205 x2.toNat + x1)) hM (by omega) (a_w _)
    obtain ⟨M', k, hM'⟩ := H x1 _ e1.1 h0 h1
    refine ⟨M', ?_, r_ev_tr e1 hM'⟩
    rcases x_lt 0 x1 with ⟨q, q_n⟩ | ⟨q, q_n⟩
    · have q1 : ¬ (M 206 x1.toNat < x2) := fun e => hv ⟨q, e⟩
      rw [E_V_eq]
      show e_tv E_C (E_V 205) e_t205_12 [192, x1, x2] M = _
      unfold e_t205_12
      simp [e_tv, e_ev, e_sv, e_b1, e_b2, x_o1, x_o2, r_O25, r_O26, q, q_n, q1, g1, g2, r_st5 h2.1 h2.2, w2, k]
    · rw [E_V_eq]
      show e_tv E_C (E_V 205) e_t205_12 [192, x1, x2] M = _
      unfold e_t205_12
      simp [e_tv, e_ev, e_sv, e_b1, e_b2, x_o1, x_o2, r_O25, r_O26, q, q_n, g1, g2, r_st5 h2.1 h2.2, w2, k]
  intro m
  induction m with
  | zero => intro x1 M hM hm h0 h1; exact hend x1 M hM h0 h1 (fun v _ => by omega)
  | succ m ih =>
    intro x1 M hM hm h0 h1
    have g1 := r_rd6 (M := M) h0 (by omega)
    by_cases q : 0 < x1 ∧ M 206 x1.toNat < x2
    · obtain ⟨q, q1⟩ := q
      have w1 : e_w (x1 + -1) = x1 - 1 := a_w_id (by omega) (by omega)
      obtain ⟨M', k, hM'⟩ := ih (x1 - 1) M hM (by omega) (by omega) (by omega)
      refine ⟨M', ?_, hM'⟩
      rw [E_V_eq]
      show e_tv E_C (E_V 205) e_t205_12 [192, x1, x2] M = _
      unfold e_t205_12
      simp [e_tv, e_ev, e_sv, e_b1, e_b2, x_o1, x_o2, r_O25, r_O26, q, q1, g1, w1, k]
    · exact hend x1 M hM h0 h1 (fun v hv => by rw [g1] at hv; cases hv; exact q)
theorem r_by_out : ∀ (m : Nat) (x1 x2 : Int) (M : EM), a_M M → (1000 - x2).toNat ≤ m → 0 ≤ x2 → 0 ≤ x1 → x1 ≤ 99 → ∃ M', E_V 205 5 [192, x1, x2] M = some (0, M') ∧ r_ev M M' := by
  have hend : ∀ x1 x2 M, a_M M → ¬ (x2 < 1000) → ∃ M', E_V 205 5 [192, x1, x2] M = some (0, M') ∧ r_ev M M' := by
    intro x1 x2 M hM q
    refine ⟨M, ?_, hM, a_fr_rf⟩
    rw [E_V_eq]
    show e_tv E_C (E_V 205) e_t205_5 [192, x1, x2] M = _
    unfold e_t205_5
    simp [e_tv, e_ev, e_sv, e_b1, e_b2, x_o1, x_o2, q]
  intro m
  induction m with
  | zero => intro x1 x2 M hM hm h2 h0 h1; exact hend x1 x2 M hM (by omega)
  | succ m ih =>
    intro x1 x2 M hM hm h2 h0 h1
    rcases x_lt x2 1000 with ⟨q, q_n⟩ | ⟨q, q_n⟩
    · obtain ⟨M', k, hM'⟩ := r_by_in ⟨h2, q⟩ (fun y1 M1 hM1 y0 y9 => ih y1 (x2 + 1) M1 hM1 (by omega) (by omega) y0 y9) 99 x1 M hM (by omega) h0 h1
      refine ⟨M', ?_, hM'⟩
      rw [E_V_eq]
      show e_tv E_C (E_V 205) e_t205_5 [192, x1, x2] M = _
      unfold e_t205_5
      simp [e_tv, e_ev, e_sv, e_b1, e_b2, x_o1, x_o2, q, q_n, k]
    · exact hend x1 x2 M hM q
theorem r_givesBy {M : EM} (hM : a_M M) : ∃ M', E_C 205 [192] M = some (0, M') ∧ r_ev M M' := by
  obtain ⟨M', k, hM'⟩ := r_by_out 1000 99 0 M hM (by decide) (by decide) (by decide) (by decide)
  refine ⟨M', ?_, hM'⟩
  rw [r_ent (show e_rok 205 [192] = true from decide_eq_true r_ref)]
  show e_tv E_C (E_V 205) e_t205_0 [192, 0, 0] M = _
  unfold e_t205_0
  simp [e_tv, e_ev, e_sv, e_b1, e_b2, x_o1, x_o2, k]
theorem r_gm_fill_204 {b p : Int} (hb : b ≤ 40) : ∀ (m : Nat) (x2 : Int) (M : EM), r_E M → (r_cl (r_G M) b p ∨ r_rw (r_G M) b p) → (100 - x2).toNat ≤ m → 0 ≤ x2 → ∃ M', E_V 204 48 [192, p, x2] M = some (0, M') ∧ r_ev M M' := by
  have hend : ∀ x2 M, r_E M → ¬ (x2 < 100) → ∃ M', E_V 204 48 [192, p, x2] M = some (0, M') ∧ r_ev M M' := by
    intro x2 M hE q
    obtain ⟨M', k, hM'⟩ := r_givesBy hE.1
    refine ⟨M', ?_, hM'⟩
    rw [E_V_eq]
    show e_tv E_C (E_V 204) e_t204_48 [192, p, x2] M = _
    unfold e_t204_48
    simp [e_tv, e_ev, e_sv, e_b1, e_b2, x_o1, x_o2, q, k]
  intro m
  induction m with
  | zero => intro x2 M hE hp hm h0; exact hend x2 M hE (by omega)
  | succ m ih =>
    intro x2 M hE hp hm h0
    rcases x_lt x2 100 with ⟨q, q_n⟩ | ⟨q, q_n⟩
    · obtain ⟨l, kl, hl⟩ := r_lowPush (c := x2) hE hb hp
      have w4 : e_w (x2 + 1) = x2 + 1 := a_w_id (by omega) (by omega)
      have e1 := r_ev6 (M := M) (k := x2.toNat) (v := l) hE.1 (by omega) hl
      obtain ⟨M', k, hM'⟩ := ih (x2 + 1) _ (r_ev_E hE e1) (by rw [r_ev_G e1]; exact hp) (by omega) (by omega)
      refine ⟨M', ?_, r_ev_tr e1 hM'⟩
      rw [E_V_eq]
      show e_tv E_C (E_V 204) e_t204_48 [192, p, x2] M = _
      unfold e_t204_48
      simp [e_tv, e_ev, e_sv, e_b1, e_b2, x_o1, x_o2, r_O26, q, q_n, kl, r_st6 h0 q, q_n, w4, k]
    · exact hend x2 M hE q
theorem r_gm_lo_204 {b p : Int} {M : EM} (hE : r_E M) (hb : b ≤ 40) (hp : r_cl (r_G M) b p ∨ r_rw (r_G M) b p) : ∃ M', E_C 204 [192, p] M = some (0, M') ∧ r_ev M M' := by
  have h40 := r_lo_p hb hp
  have kk : E_C 170 [192, p] M = some (r_G M (28 * p), M) := r_kind h40
  obtain ⟨M', k, hM'⟩ := r_gm_fill_204 hb 100 0 M hE hp (by decide) (by decide)
  refine ⟨M', ?_, hM'⟩
  rcases hp with hp | hp
  · have a3 := hp.2.2.1
    rw [r_ent (show e_rok 204 [192, p] = true from decide_eq_true r_ref)]
    show e_tv E_C (E_V 204) e_t204_0 [192, p, 0] M = _
    unfold e_t204_0
    simp [e_tv, e_ev, e_sv, e_b1, e_b2, x_o1, x_o2, kk, a3, k]
  · have a3 := hp.2.2.1
    rw [r_ent (show e_rok 204 [192, p] = true from decide_eq_true r_ref)]
    show e_tv E_C (E_V 204) e_t204_0 [192, p, 0] M = _
    unfold e_t204_0
    simp [e_tv, e_ev, e_sv, e_b1, e_b2, x_o1, x_o2, kk, a3, k]
theorem r_gm_fill_308 {b p : Int} (hb : b ≤ 40) : ∀ (m : Nat) (x2 : Int) (M : EM), r_E M → (r_cl (r_G M) b p ∨ r_rw (r_G M) b p) → (100 - x2).toNat ≤ m → 0 ≤ x2 → ∃ M', E_V 308 48 [192, p, x2] M = some (0, M') ∧ r_ev M M' := by
  have hend : ∀ x2 M, r_E M → ¬ (x2 < 100) → ∃ M', E_V 308 48 [192, p, x2] M = some (0, M') ∧ r_ev M M' := by
    intro x2 M hE q
    obtain ⟨M', k, hM'⟩ := r_givesBy hE.1
    refine ⟨M', ?_, hM'⟩
    rw [E_V_eq]
    show e_tv E_C (E_V 308) e_t308_48 [192, p, x2] M = _
    unfold e_t308_48
    simp [e_tv, e_ev, e_sv, e_b1, e_b2, x_o1, x_o2, q, k]
  intro m
  induction m with
  | zero => intro x2 M hE hp hm h0; exact hend x2 M hE (by omega)
  | succ m ih =>
    intro x2 M hE hp hm h0
    rcases x_lt x2 100 with ⟨q, q_n⟩ | ⟨q, q_n⟩
    · obtain ⟨l, kl, hl⟩ := r_lowPush (c := x2) hE hb hp
      have w4 : e_w (x2 + 1) = x2 + 1 := a_w_id (by omega) (by omega)
      have e1 := r_ev6 (M := M) (k := x2.toNat) (v := l) hE.1 (by omega) hl
      obtain ⟨M', k, hM'⟩ := ih (x2 + 1) _ (r_ev_E hE e1) (by rw [r_ev_G e1]; exact hp) (by omega) (by omega)
      refine ⟨M', ?_, r_ev_tr e1 hM'⟩
      rw [E_V_eq]
      show e_tv E_C (E_V 308) e_t308_48 [192, p, x2] M = _
      unfold e_t308_48
      simp [e_tv, e_ev, e_sv, e_b1, e_b2, x_o1, x_o2, r_O26, q, q_n, kl, r_st6 h0 q, q_n, w4, k]
    · exact hend x2 M hE q
theorem r_gm_lo_308 {b p : Int} {M : EM} (hE : r_E M) (hb : b ≤ 40) (hp : r_cl (r_G M) b p ∨ r_rw (r_G M) b p) : ∃ M', E_C 308 [192, p] M = some (0, M') ∧ r_ev M M' := by
  have h40 := r_lo_p hb hp
  have kk : E_C 170 [192, p] M = some (r_G M (28 * p), M) := r_kind h40
  obtain ⟨M', k, hM'⟩ := r_gm_fill_308 hb 100 0 M hE hp (by decide) (by decide)
  refine ⟨M', ?_, hM'⟩
  rcases hp with hp | hp
  · have a3 := hp.2.2.1
    rw [r_ent (show e_rok 308 [192, p] = true from decide_eq_true r_ref)]
    show e_tv E_C (E_V 308) e_t308_0 [192, p, 0] M = _
    unfold e_t308_0
    simp [e_tv, e_ev, e_sv, e_b1, e_b2, x_o1, x_o2, kk, a3, k]
  · have a3 := hp.2.2.1
    rw [r_ent (show e_rok 308 [192, p] = true from decide_eq_true r_ref)]
    show e_tv E_C (E_V 308) e_t308_0 [192, p, 0] M = _
    unfold e_t308_0
    simp [e_tv, e_ev, e_sv, e_b1, e_b2, x_o1, x_o2, kk, a3, k]
theorem r_gm_fill_309 {b p : Int} (hb : b ≤ 40) : ∀ (m : Nat) (x2 : Int) (M : EM), r_E M → (r_cl (r_G M) b p ∨ r_rw (r_G M) b p) → (100 - x2).toNat ≤ m → 0 ≤ x2 → ∃ M', E_V 309 48 [192, p, x2] M = some (0, M') ∧ r_ev M M' := by
  have hend : ∀ x2 M, r_E M → ¬ (x2 < 100) → ∃ M', E_V 309 48 [192, p, x2] M = some (0, M') ∧ r_ev M M' := by
    intro x2 M hE q
    obtain ⟨M', k, hM'⟩ := r_givesBy hE.1
    refine ⟨M', ?_, hM'⟩
    rw [E_V_eq]
    show e_tv E_C (E_V 309) e_t309_48 [192, p, x2] M = _
    unfold e_t309_48
    simp [e_tv, e_ev, e_sv, e_b1, e_b2, x_o1, x_o2, q, k]
  intro m
  induction m with
  | zero => intro x2 M hE hp hm h0; exact hend x2 M hE (by omega)
  | succ m ih =>
    intro x2 M hE hp hm h0
    rcases x_lt x2 100 with ⟨q, q_n⟩ | ⟨q, q_n⟩
    · obtain ⟨l, kl, hl⟩ := r_lowPush (c := x2) hE hb hp
      have w4 : e_w (x2 + 1) = x2 + 1 := a_w_id (by omega) (by omega)
      have e1 := r_ev6 (M := M) (k := x2.toNat) (v := l) hE.1 (by omega) hl
      obtain ⟨M', k, hM'⟩ := ih (x2 + 1) _ (r_ev_E hE e1) (by rw [r_ev_G e1]; exact hp) (by omega) (by omega)
      refine ⟨M', ?_, r_ev_tr e1 hM'⟩
      rw [E_V_eq]
      show e_tv E_C (E_V 309) e_t309_48 [192, p, x2] M = _
      unfold e_t309_48
      simp [e_tv, e_ev, e_sv, e_b1, e_b2, x_o1, x_o2, r_O26, q, q_n, kl, r_st6 h0 q, q_n, w4, k]
    · exact hend x2 M hE q
theorem r_gm_lo_309 {b p : Int} {M : EM} (hE : r_E M) (hb : b ≤ 40) (hp : r_cl (r_G M) b p ∨ r_rw (r_G M) b p) : ∃ M', E_C 309 [192, p] M = some (0, M') ∧ r_ev M M' := by
  have h40 := r_lo_p hb hp
  have kk : E_C 170 [192, p] M = some (r_G M (28 * p), M) := r_kind h40
  obtain ⟨M', k, hM'⟩ := r_gm_fill_309 hb 100 0 M hE hp (by decide) (by decide)
  refine ⟨M', ?_, hM'⟩
  rcases hp with hp | hp
  · have a3 := hp.2.2.1
    rw [r_ent (show e_rok 309 [192, p] = true from decide_eq_true r_ref)]
    show e_tv E_C (E_V 309) e_t309_0 [192, p, 0] M = _
    unfold e_t309_0
    simp [e_tv, e_ev, e_sv, e_b1, e_b2, x_o1, x_o2, kk, a3, k]
  · have a3 := hp.2.2.1
    rw [r_ent (show e_rok 309 [192, p] = true from decide_eq_true r_ref)]
    show e_tv E_C (E_V 309) e_t309_0 [192, p, 0] M = _
    unfold e_t309_0
    simp [e_tv, e_ev, e_sv, e_b1, e_b2, x_o1, x_o2, kk, a3, k]
theorem r_gm_all_308 {p : Int} (hp : 0 ≤ p ∧ p < 40) : ∀ (m : Nat) (x2 : Int) (M : EM), r_E M → r_G M (28 * p + 2) ≤ 6 → (∀ k, 0 ≤ k → k < r_G M (28 * p + 2) → r_cl (r_G M) p (r_G M (28 * p + 3 + k)) ∨ r_rw (r_G M) p (r_G M (28 * p + 3 + k))) → (6 - x2).toNat ≤ m → 0 ≤ x2 → ∃ M', E_V 308 20 [192, p, x2] M = some (0, M') ∧ r_ev M M' := by
  have hend : ∀ x2 M, r_E M → ¬ (x2 < r_G M (28 * p + 2)) → ∃ M', E_V 308 20 [192, p, x2] M = some (0, M') ∧ r_ev M M' := by
    intro x2 M hE q
    have km : E_C 171 [192, p] M = some (r_G M (28 * p + 2), M) := r_many hp
    refine ⟨M, ?_, hE.1, a_fr_rf⟩
    rw [E_V_eq]
    show e_tv E_C (E_V 308) e_t308_20 [192, p, x2] M = _
    unfold e_t308_20
    simp [e_tv, e_ev, e_sv, e_b1, e_b2, x_o1, x_o2, q, km]
  intro m
  induction m with
  | zero => intro x2 M hE hn hm h5 h0; exact hend x2 M hE (by omega)
  | succ m ih =>
    intro x2 M hE hn hm h5 h0
    rcases x_lt x2 (r_G M (28 * p + 2)) with ⟨q, q_n⟩ | ⟨q, q_n⟩
    · have km : E_C 171 [192, p] M = some (r_G M (28 * p + 2), M) := r_many hp
      have w4 : e_w (x2 + 1) = x2 + 1 := a_w_id (by omega) (by omega)
      have ko : E_C 172 [192, p, x2] M = some (r_G M (28 * p + 3 + x2), M) := r_of hp ⟨h0, by omega⟩
      obtain ⟨M1, k1, e1⟩ := r_gm_lo_309 hE (by omega) (hm x2 h0 q)
      have eG := r_ev_G e1
      obtain ⟨M', k, hM'⟩ := ih (x2 + 1) M1 (r_ev_E hE e1) (by rw [eG]; exact hn) (by rw [eG]; exact hm) (by omega) (by omega)
      refine ⟨M', ?_, r_ev_tr e1 hM'⟩
      rw [E_V_eq]
      show e_tv E_C (E_V 308) e_t308_20 [192, p, x2] M = _
      unfold e_t308_20
      simp [e_tv, e_ev, e_sv, e_b1, e_b2, x_o1, x_o2, q, q_n, km, ko, k1, w4, k]
    · exact hend x2 M hE q
theorem r_gm_fd_308 {b p : Int} {M : EM} (hE : r_E M) (hb : b ≤ 40) (hp : r_fd (r_G M) b p) : ∃ M', E_C 308 [192, p] M = some (0, M') ∧ r_ev M M' := by
  obtain ⟨a1, a2, a3, a4, a5, a6⟩ := hp
  have kk : E_C 170 [192, p] M = some (r_G M (28 * p), M) := r_kind ⟨a1, by omega⟩
  obtain ⟨M', k, hM'⟩ := r_gm_all_308 ⟨a1, by omega⟩ 6 0 M hE a5 a6 (by decide) (by decide)
  refine ⟨M', ?_, hM'⟩
  rw [r_ent (show e_rok 308 [192, p] = true from decide_eq_true r_ref)]
  show e_tv E_C (E_V 308) e_t308_0 [192, p, 0] M = _
  unfold e_t308_0
  simp [e_tv, e_ev, e_sv, e_b1, e_b2, x_o1, x_o2, kk, a3, k]
theorem r_gm_all_204 {p : Int} (hp : 0 ≤ p ∧ p < 40) : ∀ (m : Nat) (x2 : Int) (M : EM), r_E M → r_G M (28 * p + 2) ≤ 6 → (∀ k, 0 ≤ k → k < r_G M (28 * p + 2) → r_cl (r_G M) p (r_G M (28 * p + 3 + k)) ∨ r_rw (r_G M) p (r_G M (28 * p + 3 + k))) → (6 - x2).toNat ≤ m → 0 ≤ x2 → ∃ M', E_V 204 20 [192, p, x2] M = some (0, M') ∧ r_ev M M' := by
  have hend : ∀ x2 M, r_E M → ¬ (x2 < r_G M (28 * p + 2)) → ∃ M', E_V 204 20 [192, p, x2] M = some (0, M') ∧ r_ev M M' := by
    intro x2 M hE q
    have km : E_C 171 [192, p] M = some (r_G M (28 * p + 2), M) := r_many hp
    refine ⟨M, ?_, hE.1, a_fr_rf⟩
    rw [E_V_eq]
    show e_tv E_C (E_V 204) e_t204_20 [192, p, x2] M = _
    unfold e_t204_20
    simp [e_tv, e_ev, e_sv, e_b1, e_b2, x_o1, x_o2, q, km]
  intro m
  induction m with
  | zero => intro x2 M hE hn hm h5 h0; exact hend x2 M hE (by omega)
  | succ m ih =>
    intro x2 M hE hn hm h5 h0
    rcases x_lt x2 (r_G M (28 * p + 2)) with ⟨q, q_n⟩ | ⟨q, q_n⟩
    · have km : E_C 171 [192, p] M = some (r_G M (28 * p + 2), M) := r_many hp
      have w4 : e_w (x2 + 1) = x2 + 1 := a_w_id (by omega) (by omega)
      have ko : E_C 172 [192, p, x2] M = some (r_G M (28 * p + 3 + x2), M) := r_of hp ⟨h0, by omega⟩
      obtain ⟨M1, k1, e1⟩ := r_gm_lo_308 hE (by omega) (hm x2 h0 q)
      have eG := r_ev_G e1
      obtain ⟨M', k, hM'⟩ := ih (x2 + 1) M1 (r_ev_E hE e1) (by rw [eG]; exact hn) (by rw [eG]; exact hm) (by omega) (by omega)
      refine ⟨M', ?_, r_ev_tr e1 hM'⟩
      rw [E_V_eq]
      show e_tv E_C (E_V 204) e_t204_20 [192, p, x2] M = _
      unfold e_t204_20
      simp [e_tv, e_ev, e_sv, e_b1, e_b2, x_o1, x_o2, q, q_n, km, ko, k1, w4, k]
    · exact hend x2 M hE q
theorem r_gm_fd_204 {b p : Int} {M : EM} (hE : r_E M) (hb : b ≤ 40) (hp : r_fd (r_G M) b p) : ∃ M', E_C 204 [192, p] M = some (0, M') ∧ r_ev M M' := by
  obtain ⟨a1, a2, a3, a4, a5, a6⟩ := hp
  have kk : E_C 170 [192, p] M = some (r_G M (28 * p), M) := r_kind ⟨a1, by omega⟩
  obtain ⟨M', k, hM'⟩ := r_gm_all_204 ⟨a1, by omega⟩ 6 0 M hE a5 a6 (by decide) (by decide)
  refine ⟨M', ?_, hM'⟩
  rw [r_ent (show e_rok 204 [192, p] = true from decide_eq_true r_ref)]
  show e_tv E_C (E_V 204) e_t204_0 [192, p, 0] M = _
  unfold e_t204_0
  simp [e_tv, e_ev, e_sv, e_b1, e_b2, x_o1, x_o2, kk, a3, k]
theorem r_givesMore {b p : Int} {M : EM} (hE : r_E M) (hb : b ≤ 40) (hp : r_pt (r_G M) b p) : ∃ M', E_C 204 [192, p] M = some (0, M') ∧ r_ev M M' := by
  rcases hp with hp | hp | hp | hp
  · exact r_gm_lo_204 hE hb (Or.inl hp)
  · exact r_gm_lo_204 hE hb (Or.inr hp)
  · exact r_gm_fd_204 hE hb hp
  · obtain ⟨a1, a2, a3, a4, a5⟩ := hp
    have kk : E_C 170 [192, p] M = some (r_G M (28 * p), M) := r_kind ⟨a1, by omega⟩
    have km : E_C 171 [192, p] M = some (1, M) := by
      have h := r_many (M := M) (p := p) ⟨a1, by omega⟩
      rw [show M 193 (28 * p + 2).toNat = 1 from a4.1] at h
      exact h
    have ko : E_C 172 [192, p, 0] M = some (r_G M (28 * p + 3), M) := by
      have h := r_of (M := M) (p := p) (k := 0) ⟨a1, by omega⟩ ⟨by decide, by decide⟩
      rw [Int.add_zero] at h
      exact h
    have h3 : ∃ M', E_C 308 [192, r_G M (28 * p + 3)] M = some (0, M') ∧ r_ev M M' := by
      rcases a5 with h | h | h
      · exact r_gm_lo_308 hE (by omega) (Or.inl h)
      · exact r_gm_lo_308 hE (by omega) (Or.inr h)
      · exact r_gm_fd_308 hE (by omega) h
    obtain ⟨M', k, hM'⟩ := h3
    have w1 : e_w (0 + 1) = 1 := a_w_id (by decide) (by decide)
    have k2 : E_V 204 20 [192, p, 1] M' = some (0, M') := by
      have km' : E_C 171 [192, p] M' = some (1, M') := by
        have h := r_many (M := M') (p := p) ⟨a1, by omega⟩
        rw [show M' 193 (28 * p + 2).toNat = 1 from (congrFun (r_ev_G hM') _).trans a4.1] at h
        exact h
      rw [E_V_eq]
      show e_tv E_C (E_V 204) e_t204_20 [192, p, 1] M' = _
      unfold e_t204_20
      simp [e_tv, e_ev, e_sv, e_b1, e_b2, x_o1, x_o2, km']
    have k3 : E_V 204 20 [192, p, 0] M = some (0, M') := by
      rw [E_V_eq]
      show e_tv E_C (E_V 204) e_t204_20 [192, p, 0] M = _
      unfold e_t204_20
      simp [e_tv, e_ev, e_sv, e_b1, e_b2, x_o1, x_o2, km, ko, k]
      exact k2
    refine ⟨M', ?_, hM'⟩
    rw [r_ent (show e_rok 204 [192, p] = true from decide_eq_true r_ref)]
    show e_tv E_C (E_V 204) e_t204_0 [192, p, 0] M = _
    unfold e_t204_0
    simp [e_tv, e_ev, e_sv, e_b1, e_b2, x_o1, x_o2, kk, a3, k3]
theorem r_gives_loop {b p : Int} (hb : b ≤ 40) : ∀ (m : Nat) (x2 : Int) (M : EM), r_E M → r_pt (r_G M) b p → (1000 - x2).toNat ≤ m → 0 ≤ x2 → ∃ M', E_V 203 2 [192, p, x2] M = some (0, M') ∧ r_ev M M' := by
  have hend : ∀ x2 M, r_E M → r_pt (r_G M) b p → ¬ (x2 < 1000) → ∃ M', E_V 203 2 [192, p, x2] M = some (0, M') ∧ r_ev M M' := by
    intro x2 M hE hp q
    obtain ⟨M', k, hM'⟩ := r_givesMore hE hb hp
    refine ⟨M', ?_, hM'⟩
    rw [E_V_eq]
    show e_tv E_C (E_V 203) e_t203_2 [192, p, x2] M = _
    unfold e_t203_2
    simp [e_tv, e_ev, e_sv, e_b1, e_b2, x_o1, x_o2, q, k]
  intro m
  induction m with
  | zero => intro x2 M hE hp hm h0; exact hend x2 M hE hp (by omega)
  | succ m ih =>
    intro x2 M hE hp hm h0
    rcases x_lt x2 1000 with ⟨q, q_n⟩ | ⟨q, q_n⟩
    · have w4 : e_w (x2 + 1) = x2 + 1 := a_w_id (by omega) (by omega)
      have e1 := r_ev5 (M := M) (k := x2.toNat) (v := 0) hE.1 (by omega) (by decide)
      obtain ⟨M', k, hM'⟩ := ih (x2 + 1) _ (r_ev_E hE e1) (by rw [r_ev_G e1]; exact hp) (by omega) (by omega)
      refine ⟨M', ?_, r_ev_tr e1 hM'⟩
      rw [E_V_eq]
      show e_tv E_C (E_V 203) e_t203_2 [192, p, x2] M = _
      unfold e_t203_2
      simp [e_tv, e_ev, e_sv, e_b1, e_b2, x_o1, x_o2, r_O25, q, q_n, r_st5 h0 q, q_n, w4, k]
    · exact hend x2 M hE hp q
theorem r_gives {b p : Int} {M : EM} (hE : r_E M) (hb : b ≤ 40) (hp : r_pt (r_G M) b p) : ∃ M', E_C 203 [192, p] M = some (0, M') ∧ r_ev M M' := by
  obtain ⟨M', k, hM'⟩ := r_gives_loop hb 1000 0 M hE hp (by decide) (by decide)
  refine ⟨M', ?_, hM'⟩
  rw [r_ent (show e_rok 203 [192, p] = true from decide_eq_true r_ref)]
  show e_tv E_C (E_V 203) e_t203_0 [192, p, 0] M = _
  unfold e_t203_0
  simp [e_tv, e_ev, e_sv, e_b1, e_b2, x_o1, x_o2, k]
theorem r_best_loop {M : EM} (hM : a_M M) : ∀ (m : Nat) (x1 x2 : Int), (501 - x2).toNat ≤ m → 0 ≤ x2 → 0 ≤ x1 → x1 ≤ 500 → ∃ r, E_V 208 4 [192, x1, x2] M = some (r, M) ∧ 0 ≤ r ∧ r ≤ 500 := by
  have hend : ∀ x1 x2, ¬ (x2 ≤ 500) → 0 ≤ x1 → x1 ≤ 500 → ∃ r, E_V 208 4 [192, x1, x2] M = some (r, M) ∧ 0 ≤ r ∧ r ≤ 500 := by
    intro x1 x2 q h0 h1
    refine ⟨x1, ?_, h0, h1⟩
    rw [E_V_eq]
    show e_tv E_C (E_V 208) e_t208_4 [192, x1, x2] M = _
    unfold e_t208_4
    simp [e_tv, e_ev, e_sv, e_b1, e_b2, x_o1, x_o2, q]
  intro m
  induction m with
  | zero => intro x1 x2 hm h2 h0 h1; exact hend x1 x2 (by omega) h0 h1
  | succ m ih =>
    intro x1 x2 hm h2 h0 h1
    rcases x_le x2 500 with ⟨q, q_n⟩ | ⟨q, q_n⟩
    · have w4 : e_w (x2 + 1) = x2 + 1 := a_w_id (by omega) (by omega)
      have g1 := r_rd5 (M := M) h0 (by omega)
      have g2 := r_rd5 (M := M) h2 (by omega)
      have hgo : ∀ y, 0 ≤ y → y ≤ 500 → ∃ r, E_V 208 32 [192, y, x2] M = some (r, M) ∧ 0 ≤ r ∧ r ≤ 500 := by
        intro y y0 y1
        obtain ⟨r, k, hr⟩ := ih y (x2 + 1) (by omega) (by omega) y0 y1
        refine ⟨r, ?_, hr⟩
        rw [E_V_eq]
        show e_tv E_C (E_V 208) e_t208_32 [192, y, x2] M = _
        unfold e_t208_32
        simp [e_tv, e_ev, e_sv, e_b1, e_b2, x_o1, x_o2, w4, k]
      rcases x_lt (e_w (x1 * M 205 x1.toNat)) (e_w (x2 * M 205 x2.toNat)) with ⟨c, c_n⟩ | ⟨c, c_n⟩
      · obtain ⟨r, k, hr⟩ := hgo x2 h2 q
        refine ⟨r, ?_, hr⟩
        rw [E_V_eq]
        show e_tv E_C (E_V 208) e_t208_4 [192, x1, x2] M = _
        unfold e_t208_4
        simp [e_tv, e_ev, e_sv, e_b1, e_b2, x_o1, x_o2, r_O25, q, q_n, g1, g2, c, c_n, k]
      · obtain ⟨r, k, hr⟩ := hgo x1 h0 h1
        refine ⟨r, ?_, hr⟩
        rw [E_V_eq]
        show e_tv E_C (E_V 208) e_t208_4 [192, x1, x2] M = _
        unfold e_t208_4
        simp [e_tv, e_ev, e_sv, e_b1, e_b2, x_o1, x_o2, r_O25, q, q_n, g1, g2, c, c_n, k]
    · exact hend x1 x2 q h0 h1
theorem r_bestOf {M : EM} (hM : a_M M) : ∃ r, E_C 208 [192] M = some (r, M) ∧ 0 ≤ r ∧ r ≤ 500 := by
  obtain ⟨r, k, hr⟩ := r_best_loop hM 501 0 1 (by decide) (by decide) (by decide) (by decide)
  refine ⟨r, ?_, hr⟩
  rw [r_ent (show e_rok 208 [192] = true from decide_eq_true r_ref)]
  show e_tv E_C (E_V 208) e_t208_0 [192, 0, 0] M = _
  unfold e_t208_0
  simp [e_tv, e_ev, e_sv, e_b1, e_b2, x_o1, x_o2, k]
theorem r_bestPower {b p : Int} {M : EM} (hE : r_E M) (hb : b ≤ 40) (hp : r_pt (r_G M) b p) : ∃ r M', E_C 209 [192, p] M = some (r, M') ∧ r_ev M M' := by
  obtain ⟨M1, k1, e1⟩ := r_gives hE hb hp
  obtain ⟨u, ku, hu⟩ := r_bestOf e1.1
  have g1 := r_rd5 (M := M1) hu.1 (by omega)
  refine ⟨e_w (u * M1 205 u.toNat), M1, ?_, e1⟩
  rw [r_ent (show e_rok 209 [192, p] = true from decide_eq_true r_ref)]
  show e_tv E_C (E_V 209) e_t209_0 [192, p, 0] M = _
  unfold e_t209_0
  simp [e_tv, e_ev, e_sv, e_b1, e_b2, x_o1, x_o2, r_O25, k1, ku, g1]
theorem r_power {u : Int} {M : EM} (hM : a_M M) (h0 : 0 ≤ u) : r_P 211 [192, u] M := by
  rcases x_lt 500 u with ⟨c, c_n⟩ | ⟨c, c_n⟩
  · refine ⟨0, ?_, by decide, by decide⟩
    rw [r_ent (show e_rok 211 [192, u] = true from decide_eq_true r_ref)]
    show e_tv E_C (E_V 211) e_t211_0 [192, u] M = _
    unfold e_t211_0
    simp [e_tv, e_ev, e_sv, e_b1, e_b2, x_o1, x_o2, c, c_n]
  · have g1 := r_rd5 (M := M) h0 (by omega)
    refine ⟨e_w (u * M 205 u.toNat), ?_, a_w _⟩
    rw [r_ent (show e_rok 211 [192, u] = true from decide_eq_true r_ref)]
    show e_tv E_C (E_V 211) e_t211_0 [192, u] M = _
    unfold e_t211_0
    simp [e_tv, e_ev, e_sv, e_b1, e_b2, x_o1, x_o2, r_O25, c, c_n, g1]
end
section
/-! what holds between two calls, and what only asks -/
def r_Gi (M : EM) (i : Int) : Int := M 194 i.toNat
def r_J (M : EM) : Prop := a_M M ∧ r_I M ∧ r_W (r_G M) ∧ (M 192 9 ≠ 0 → r_W (r_Gi M)) ∧ M 192 20 = -1
/-- what asking writes -/
def r_wq : AW := [(192, 10, 35), (202, 0, 47), (203, 0, 47), (205, 0, 999), (206, 0, 99), (207, 0, 1023), (208, 0, 1023), (209, 0, 799), (210, 0, 402), (211, 0, 402), (212, 0, 11736)]
def r_Q (u : Nat) (as : List Int) (M : EM) : Prop := ∃ r M', E_C u as M = some (r, M') ∧ a_M M' ∧ a_fr r_wq M M' ∧ M' 192 20 = -1
theorem r_J_E {M : EM} (h : r_J M) : r_E M := ⟨h.1, h.2.2.1, by rw [h.2.2.2.2]; decide, by rw [h.2.2.2.2]; decide⟩
theorem r_wq_out {M M' : EM} (h : a_fr r_wq M M') {id k : Nat} (hi : id < 192 ∨ id = 192 ∧ (k < 10 ∨ 35 < k) ∨ 193 ≤ id ∧ id ≤ 201 ∨ id = 204 ∨ 212 < id) : M' id k = M id k := h id k (fun w hw => by
  have key : ∀ w ∈ r_wq, (w.1 = 192 ∧ w.2.1 = 10 ∧ w.2.2 = 35) ∨ w.1 = 202 ∨ w.1 = 203 ∨ (205 ≤ w.1 ∧ w.1 ≤ 212) := by decide
  have := key w hw
  omega)
theorem r_J_q {M M' : EM} (h : r_J M) (hM : a_M M') (hf : a_fr r_wq M M') (h20 : M' 192 20 = -1) : r_J M' := by
  obtain ⟨j1, j2, j3, j4, j5⟩ := h
  have e1 : r_G M' = r_G M := funext fun i => r_wq_out hf (by omega)
  have e2 : r_Gi M' = r_Gi M := funext fun i => r_wq_out hf (by omega)
  refine ⟨hM, fun j hj => ?_, by rw [e1]; exact j3, ?_, h20⟩
  · rw [r_wq_out hf (by omega)]; exact j2 j hj
  · rw [r_wq_out hf (by omega), e2]; exact j4
theorem r_evq {M M' : EM} (h : r_ev M M') : a_fr r_wq M M' := a_sub_fr (by decide) h.2
theorem r_in1 {x lo hi : Int} {M : EM} (h : lo ≤ x ∧ x ≤ hi) : E_C 168 [x, lo, hi] M = some (1, M) := by rw [r_isIn, if_pos h]
theorem r_in0 {x lo hi : Int} {M : EM} (h : ¬ (lo ≤ x ∧ x ≤ hi)) : E_C 168 [x, lo, hi] M = some (0, M) := by rw [r_isIn, if_neg h]
theorem r_W_N {M : EM} (h : r_W (r_G M)) : r_N M := ⟨h.1, h.2.1⟩
theorem r_ip1 {p : Int} {M : EM} (h : r_W (r_G M)) (hp : 0 ≤ p ∧ p < r_G M 1198) : E_C 169 [192, p] M = some (1, M) := by rw [r_isPart (r_W_N h)]; exact congrArg some (congrArg (·, M) (if_pos hp))
theorem r_ip0 {p : Int} {M : EM} (h : r_W (r_G M)) (hp : ¬ (0 ≤ p ∧ p < r_G M 1198)) : E_C 169 [192, p] M = some (0, M) := by rw [r_isPart (r_W_N h)]; exact congrArg some (congrArg (·, M) (if_neg hp))
theorem r_same {M : EM} {u : Nat} {as : List Int} {r : Int} (hJ : r_J M) (k : E_C u as M = some (r, M)) : r_Q u as M := ⟨r, M, k, hJ.1, a_fr_rf, hJ.2.2.2.2⟩
/-- a field of the reference's own -/
theorem r_fup {M : EM} {k : Nat} {v : Int} (hk : 10 ≤ k ∧ k ≤ 35) (hv : -2147483648 ≤ v ∧ v ≤ 2147483647) (hM : a_M M) : a_M (e_up M 192 k v) ∧ a_fr r_wq M (e_up M 192 k v) ∧ r_G (e_up M 192 k v) = r_G M := by
  refine ⟨r_up (by decide) (by decide +kernel) (by decide +kernel) hv hM, fun b j hw => c_up_n (fun hc => hw _ List.mem_cons_self ⟨hc.1.symm, ?_, ?_⟩), ?_⟩
  · have := hc.2; show 10 ≤ j; omega
  · have := hc.2; show j ≤ 35; omega
  · funext i
    exact c_up_n (fun hc => absurd hc.1 (by decide))
theorem r_E_f {M : EM} {k : Nat} {v : Int} (hE : r_E M) (hk : 10 ≤ k ∧ k ≤ 35) (hk2 : k ≠ 20) (hv : -2147483648 ≤ v ∧ v ≤ 2147483647) : r_E (e_up M 192 k v) := by
  obtain ⟨e1, e2, e3⟩ := hE
  obtain ⟨f1, f2, f3⟩ := r_fup (v := v) hk hv e1
  refine ⟨f1, by rw [f3]; exact e2, ?_⟩
  rw [c_up_n (fun hc => hk2 hc.2.symm)]
  exact e3
theorem r_up20 {M : EM} {k : Nat} {v : Int} (hk : k ≠ 20) : (e_up M 192 k v) 192 20 = M 192 20 := c_up_n (fun hc => hk hc.2.symm)
theorem r_pt_of {M : EM} (hW : r_W (r_G M)) {p : Int} (hp : 0 ≤ p ∧ p < r_G M 1198) : r_pt (r_G M) (r_G M 1198) p := hW.2.2.1 p hp.1 hp.2
theorem r_40 {M : EM} (hW : r_W (r_G M)) {p : Int} (hp : 0 ≤ p ∧ p < r_G M 1198) : 0 ≤ p ∧ p < 40 := ⟨hp.1, by have := hW.2.1; omega⟩
theorem r_pt_cell {g : Int → Int} {b p : Int} (h : r_pt g b p) (hk : g (28 * p) = 0) : r_cl g b p := by
  rcases h with h | h | h | h
  · exact h
  · have := h.2.2.1; omega
  · have := h.2.2.1; omega
  · have := h.2.2.1; omega
theorem r_pt_row {g : Int → Int} {b p : Int} (h : r_pt g b p) (hk : g (28 * p) = 1) : r_rw g b p := by
  rcases h with h | h | h | h
  · have := h.2.2.1; omega
  · exact h
  · have := h.2.2.1; omega
  · have := h.2.2.1; omega
theorem r_point {p i w : Int} {M : EM} (hJ : r_J M) : r_Q 195 [192, p, i, w] M := by
  have hE := r_J_E hJ
  have hW := hE.2.1
  by_cases q0 : 0 ≤ p ∧ p < r_G M 1198
  · have ip := r_ip1 hW q0
    have h40 := r_40 hW q0
    have kk : E_C 170 [192, p] M = some (r_G M (28 * p), M) := r_kind h40
    by_cases q1 : 0 ≤ w ∧ w ≤ 1
    · have i1 := r_in1 (M := M) q1
      by_cases q2 : r_G M (28 * p) = 0
      · have hc := r_pt_cell (r_pt_of hW q0) q2
        have km : E_C 171 [192, p] M = some (r_G M (28 * p + 2), M) := r_many h40
        have hc4 := hc.2.2.2.1
        have hc5 := hc.2.2.2.2.1
        have w1 : e_w (r_G M (28 * p + 2) - 1) = r_G M (28 * p + 2) - 1 := a_w_id (by omega) (by omega)
        by_cases q3 : 0 ≤ i ∧ i ≤ r_G M (28 * p + 2) - 1
        · have i2 := r_in1 (M := M) q3
          obtain ⟨s, ks, hs⟩ := r_share hE h40 hc.2.2.2.2.2
          obtain ⟨a, ka, ha⟩ := r_currentAt (p := p) (i := i) (sh := s) (M := M) h40 ⟨q3.1, by omega⟩
          obtain ⟨t, kt, ht⟩ := r_pushAt (p := p) (i := i) (M := M) h40 ⟨q3.1, by omega⟩
          by_cases q4 : w = 0
          · refine r_same (r := t) hJ ?_
            subst q4
            rw [r_ent (show e_rok 195 [192, p, i, 0] = true from decide_eq_true r_ref)]
            show e_tv E_C (E_V 195) e_t195_0 [192, p, i, 0] M = _
            unfold e_t195_0
            simp [e_tv, e_ev, e_sv, e_b1, e_b2, x_o1, x_o2, ip, i1, kk, q2, km, w1, i2, kt]
          · refine r_same (r := a) hJ ?_
            rw [r_ent (show e_rok 195 [192, p, i, w] = true from decide_eq_true r_ref)]
            show e_tv E_C (E_V 195) e_t195_0 [192, p, i, w] M = _
            unfold e_t195_0
            simp [e_tv, e_ev, e_sv, e_b1, e_b2, x_o1, x_o2, ip, i1, kk, q2, km, w1, i2, ks, ka, q4]
        · have i2 := r_in0 (M := M) q3
          refine r_same (r := -1) hJ ?_
          rw [r_ent (show e_rok 195 [192, p, i, w] = true from decide_eq_true r_ref)]
          show e_tv E_C (E_V 195) e_t195_0 [192, p, i, w] M = _
          unfold e_t195_0
          simp [e_tv, e_ev, e_sv, e_b1, e_b2, x_o1, x_o2, ip, i1, kk, q2, km, w1, i2]
      · refine r_same (r := -3) hJ ?_
        rw [r_ent (show e_rok 195 [192, p, i, w] = true from decide_eq_true r_ref)]
        show e_tv E_C (E_V 195) e_t195_0 [192, p, i, w] M = _
        unfold e_t195_0
        simp [e_tv, e_ev, e_sv, e_b1, e_b2, x_o1, x_o2, ip, i1, kk, q2]
    · have i1 := r_in0 (M := M) q1
      refine r_same (r := -1) hJ ?_
      rw [r_ent (show e_rok 195 [192, p, i, w] = true from decide_eq_true r_ref)]
      show e_tv E_C (E_V 195) e_t195_0 [192, p, i, w] M = _
      unfold e_t195_0
      simp [e_tv, e_ev, e_sv, e_b1, e_b2, x_o1, x_o2, ip, i1]
  · have ip := r_ip0 hW q0
    refine r_same (r := -1) hJ ?_
    rw [r_ent (show e_rok 195 [192, p, i, w] = true from decide_eq_true r_ref)]
    show e_tv E_C (E_V 195) e_t195_0 [192, p, i, w] M = _
    unfold e_t195_0
    simp [e_tv, e_ev, e_sv, e_b1, e_b2, x_o1, x_o2, ip]
theorem r_current {p u : Int} {M : EM} (hJ : r_J M) : r_Q 207 [192, p, u] M := by
  have hE := r_J_E hJ
  have hW := hE.2.1
  by_cases q0 : 0 ≤ p ∧ p < r_G M 1198
  · have ip := r_ip1 hW q0
    by_cases q1 : -50 ≤ u ∧ u ≤ 999
    · have i1 := r_in1 (M := M) q1
      obtain ⟨r, k, hr⟩ := r_currentOf (u := u) hE hW.2.1 (r_pt_of hW q0)
      refine r_same (r := r) hJ ?_
      rw [r_ent (show e_rok 207 [192, p, u] = true from decide_eq_true r_ref)]
      show e_tv E_C (E_V 207) e_t207_0 [192, p, u] M = _
      unfold e_t207_0
      simp [e_tv, e_ev, e_sv, e_b1, e_b2, x_o1, x_o2, ip, i1, k]
    · have i1 := r_in0 (M := M) q1
      refine r_same (r := -1) hJ ?_
      rw [r_ent (show e_rok 207 [192, p, u] = true from decide_eq_true r_ref)]
      show e_tv E_C (E_V 207) e_t207_0 [192, p, u] M = _
      unfold e_t207_0
      simp [e_tv, e_ev, e_sv, e_b1, e_b2, x_o1, x_o2, ip, i1]
  · have ip := r_ip0 hW q0
    refine r_same (r := -1) hJ ?_
    rw [r_ent (show e_rok 207 [192, p, u] = true from decide_eq_true r_ref)]
    show e_tv E_C (E_V 207) e_t207_0 [192, p, u] M = _
    unfold e_t207_0
    simp [e_tv, e_ev, e_sv, e_b1, e_b2, x_o1, x_o2, ip]
theorem r_best {p w : Int} {M : EM} (hJ : r_J M) : r_Q 210 [192, p, w] M := by
  have hE := r_J_E hJ
  have hW := hE.2.1
  by_cases q0 : 0 ≤ p ∧ p < r_G M 1198
  · have ip := r_ip1 hW q0
    by_cases q1 : 0 ≤ w ∧ w ≤ 2
    · have i1 := r_in1 (M := M) q1
      obtain ⟨M1, k1, e1⟩ := r_gives hE hW.2.1 (r_pt_of hW q0)
      obtain ⟨u, ku, hu⟩ := r_bestOf e1.1
      have g1 := r_rd5 (M := M1) hu.1 (by omega)
      have h20 : M1 192 20 = -1 := by rw [r_ev_same e1 (by decide) (by decide)]; exact hJ.2.2.2.2
      by_cases q2 : w = 0
      · subst q2
        refine ⟨e_w (u * M1 205 u.toNat), M1, ?_, e1.1, r_evq e1, h20⟩
        rw [r_ent (show e_rok 210 [192, p, 0] = true from decide_eq_true r_ref)]
        show e_tv E_C (E_V 210) e_t210_0 [192, p, 0, 0] M = _
        unfold e_t210_0
        simp [e_tv, e_ev, e_sv, e_b1, e_b2, x_o1, x_o2, r_O25, ip, i1, k1, ku, g1]
      · by_cases q3 : w = 1
        · subst q3
          refine ⟨u, M1, ?_, e1.1, r_evq e1, h20⟩
          rw [r_ent (show e_rok 210 [192, p, 1] = true from decide_eq_true r_ref)]
          show e_tv E_C (E_V 210) e_t210_0 [192, p, 1, 0] M = _
          unfold e_t210_0
          simp [e_tv, e_ev, e_sv, e_b1, e_b2, x_o1, x_o2, r_O25, ip, i1, k1, ku, g1]
        · refine ⟨M1 205 u.toNat, M1, ?_, e1.1, r_evq e1, h20⟩
          rw [r_ent (show e_rok 210 [192, p, w] = true from decide_eq_true r_ref)]
          show e_tv E_C (E_V 210) e_t210_0 [192, p, w, 0] M = _
          unfold e_t210_0
          simp [e_tv, e_ev, e_sv, e_b1, e_b2, x_o1, x_o2, r_O25, ip, i1, k1, ku, g1, q2, q3]
    · have i1 := r_in0 (M := M) q1
      refine r_same (r := -1) hJ ?_
      rw [r_ent (show e_rok 210 [192, p, w] = true from decide_eq_true r_ref)]
      show e_tv E_C (E_V 210) e_t210_0 [192, p, w, 0] M = _
      unfold e_t210_0
      simp [e_tv, e_ev, e_sv, e_b1, e_b2, x_o1, x_o2, ip, i1]
  · have ip := r_ip0 hW q0
    refine r_same (r := -1) hJ ?_
    rw [r_ent (show e_rok 210 [192, p, w] = true from decide_eq_true r_ref)]
    show e_tv E_C (E_V 210) e_t210_0 [192, p, w, 0] M = _
    unfold e_t210_0
    simp [e_tv, e_ev, e_sv, e_b1, e_b2, x_o1, x_o2, ip]
theorem r_push_loop {p c x3 : Int} {M : EM} (hM : a_M M) : ∀ (m : Nat) (x4 : Int), (x4 + 1).toNat ≤ m → x4 ≤ 999 → -1 ≤ x4 → ∃ r, E_V 206 86 [192, p, c, x3, x4] M = some (r, M) := by
  have hend : ∀ x4, ¬ (0 ≤ x4) → ∃ r, E_V 206 86 [192, p, c, x3, x4] M = some (r, M) := by
    intro x4 q
    refine ⟨x4, ?_⟩
    rw [E_V_eq]
    show e_tv E_C (E_V 206) e_t206_86 [192, p, c, x3, x4] M = _
    unfold e_t206_86
    simp [e_tv, e_ev, e_sv, e_b1, e_b2, x_o1, x_o2, q]
  intro m
  induction m with
  | zero => intro x4 hm h0 h1; exact hend x4 (by omega)
  | succ m ih =>
    intro x4 hm h0 h1
    rcases x_le 0 x4 with ⟨q, q_n⟩ | ⟨q, q_n⟩
    · have g1 := r_rd5 (M := M) q (by omega)
      rcases x_lt (M 205 x4.toNat) c with ⟨c1, c1_n⟩ | ⟨c1, c1_n⟩
      · have w4 : e_w (x4 + -1) = x4 - 1 := a_w_id (by omega) (by omega)
        obtain ⟨r, k⟩ := ih (x4 - 1) (by omega) (by omega) (by omega)
        refine ⟨r, ?_⟩
        rw [E_V_eq]
        show e_tv E_C (E_V 206) e_t206_86 [192, p, c, x3, x4] M = _
        unfold e_t206_86
        simp [e_tv, e_ev, e_sv, e_b1, e_b2, x_o1, x_o2, r_O25, q, q_n, g1, c1, c1_n, w4, k]
      · refine ⟨x4, ?_⟩
        rw [E_V_eq]
        show e_tv E_C (E_V 206) e_t206_86 [192, p, c, x3, x4] M = _
        unfold e_t206_86
        simp [e_tv, e_ev, e_sv, e_b1, e_b2, x_o1, x_o2, r_O25, q, q_n, g1, c1, c1_n]
    · exact hend x4 q
theorem r_push {p c : Int} {M : EM} (hJ : r_J M) : r_Q 206 [192, p, c] M := by
  have hE := r_J_E hJ
  have hW := hE.2.1
  have f1 := r_fup (M := M) (k := 10) (v := 1) (by decide) (by decide) hJ.1
  have f0 := r_fup (M := M) (k := 10) (v := 0) (by decide) (by decide) hJ.1
  have t1 : (e_up M 192 10 1) 192 20 = -1 := (r_up20 (by decide)).trans hJ.2.2.2.2
  have t0 : (e_up M 192 10 0) 192 20 = -1 := (r_up20 (by decide)).trans hJ.2.2.2.2
  by_cases q0 : 0 ≤ p ∧ p < r_G M 1198
  · have ip := r_ip1 hW q0
    have h40 := r_40 hW q0
    by_cases q1 : 0 ≤ c ∧ c ≤ 999
    · have i1 := r_in1 (M := M) q1
      have hp := r_pt_of hW q0
      have E1 : r_E (e_up M 192 10 0) := r_E_f hE (by decide) (by decide) (by decide)
      have kk : E_C 170 [192, p] (e_up M 192 10 0) = some (r_G M (28 * p), e_up M 192 10 0) := by rw [← f0.2.2]; exact r_kind h40
      have hlow : ∀ b q, b ≤ 40 → (r_cl (r_G M) b q ∨ r_rw (r_G M) b q) → r_P 201 [192, q, c] (e_up M 192 10 0) := fun b q hb hq => r_lowPush E1 hb (by rw [f0.2.2]; exact hq)
      have hfd : ∀ b q, b ≤ 40 → r_fd (r_G M) b q → ∃ M1, E_C 203 [192, q] (e_up M 192 10 0) = some (0, M1) ∧ r_ev (e_up M 192 10 0) M1 := fun b q hb hq => r_gives E1 hb (Or.inr (Or.inr (Or.inl (by rw [f0.2.2]; exact hq))))
      rcases hp with hp | hp | hp | hp
      · obtain ⟨l, kl, hl⟩ := hlow _ _ hW.2.1 (Or.inl hp)
        have a3 := hp.2.2.1
        refine ⟨l, _, ?_, f0.1, f0.2.1, t0⟩
        rw [r_ent (show e_rok 206 [192, p, c] = true from decide_eq_true r_ref)]
        show e_tv E_C (E_V 206) e_t206_0 [192, p, c, 0, 0] M = _
        unfold e_t206_0
        simp [e_tv, e_ev, e_sv, e_b1, e_b2, x_o1, x_o2, r_P10, r_F10, c_up_s, ip, i1, kk, a3, kl]
      · obtain ⟨l, kl, hl⟩ := hlow _ _ hW.2.1 (Or.inr hp)
        have a3 := hp.2.2.1
        refine ⟨l, _, ?_, f0.1, f0.2.1, t0⟩
        rw [r_ent (show e_rok 206 [192, p, c] = true from decide_eq_true r_ref)]
        show e_tv E_C (E_V 206) e_t206_0 [192, p, c, 0, 0] M = _
        unfold e_t206_0
        simp [e_tv, e_ev, e_sv, e_b1, e_b2, x_o1, x_o2, r_P10, r_F10, c_up_s, ip, i1, kk, a3, kl]
      · obtain ⟨M1, k1, e1⟩ := hfd _ _ hW.2.1 hp
        have a3 := hp.2.2.1
        obtain ⟨r, k⟩ := r_push_loop (p := p) (c := c) (x3 := p) e1.1 1000 999 (by decide) (by decide) (by decide)
        refine ⟨r, M1, ?_, e1.1, a_fr_tr f0.2.1 (r_evq e1), by rw [r_ev_same e1 (by decide) (by decide)]; exact t0⟩
        rw [r_ent (show e_rok 206 [192, p, c] = true from decide_eq_true r_ref)]
        show e_tv E_C (E_V 206) e_t206_0 [192, p, c, 0, 0] M = _
        unfold e_t206_0
        simp [e_tv, e_ev, e_sv, e_b1, e_b2, x_o1, x_o2, r_P10, r_F10, c_up_s, ip, i1, kk, a3, k1, k]
      · obtain ⟨a1, a2, a3, a4, a5⟩ := hp
        have ko : E_C 172 [192, p, 0] (e_up M 192 10 0) = some (r_G M (28 * p + 3), e_up M 192 10 0) := by
          have h := r_of (M := e_up M 192 10 0) (p := p) (k := 0) h40 ⟨by decide, by decide⟩
          rw [Int.add_zero] at h
          rw [← f0.2.2]
          exact h
        have hq : 0 ≤ r_G M (28 * p + 3) ∧ r_G M (28 * p + 3) < 40 := by
          rcases a5 with h | h | h
          · exact ⟨h.1, by have := h.2.1; omega⟩
          · exact ⟨h.1, by have := h.2.1; omega⟩
          · exact ⟨h.1, by have := h.2.1; omega⟩
        have kq : E_C 170 [192, r_G M (28 * p + 3)] (e_up M 192 10 0) = some (r_G M (28 * r_G M (28 * p + 3)), e_up M 192 10 0) := by
          have h := r_kind (M := e_up M 192 10 0) hq
          have h2 := congrFun f0.2.2 (28 * r_G M (28 * p + 3))
          unfold r_G at h2 ⊢
          unfold r_G at h
          rw [h2] at h
          exact h
        rcases a5 with h | h | h
        · obtain ⟨l, kl, hl⟩ := hlow _ _ (by omega) (Or.inl h)
          have b3 := h.2.2.1
          refine ⟨l, _, ?_, f0.1, f0.2.1, t0⟩
          rw [r_ent (show e_rok 206 [192, p, c] = true from decide_eq_true r_ref)]
          show e_tv E_C (E_V 206) e_t206_0 [192, p, c, 0, 0] M = _
          unfold e_t206_0
          simp [e_tv, e_ev, e_sv, e_b1, e_b2, x_o1, x_o2, r_P10, r_F10, c_up_s, ip, i1, kk, a3, ko, kq, b3, kl]
        · obtain ⟨l, kl, hl⟩ := hlow _ _ (by omega) (Or.inr h)
          have b3 := h.2.2.1
          refine ⟨l, _, ?_, f0.1, f0.2.1, t0⟩
          rw [r_ent (show e_rok 206 [192, p, c] = true from decide_eq_true r_ref)]
          show e_tv E_C (E_V 206) e_t206_0 [192, p, c, 0, 0] M = _
          unfold e_t206_0
          simp [e_tv, e_ev, e_sv, e_b1, e_b2, x_o1, x_o2, r_P10, r_F10, c_up_s, ip, i1, kk, a3, ko, kq, b3, kl]
        · obtain ⟨M1, k1, e1⟩ := hfd _ _ (by omega) h
          have b3 := h.2.2.1
          obtain ⟨r, k⟩ := r_push_loop (p := p) (c := c) (x3 := r_G M (28 * p + 3)) e1.1 1000 999 (by decide) (by decide) (by decide)
          refine ⟨r, M1, ?_, e1.1, a_fr_tr f0.2.1 (r_evq e1), by rw [r_ev_same e1 (by decide) (by decide)]; exact t0⟩
          rw [r_ent (show e_rok 206 [192, p, c] = true from decide_eq_true r_ref)]
          show e_tv E_C (E_V 206) e_t206_0 [192, p, c, 0, 0] M = _
          unfold e_t206_0
          simp [e_tv, e_ev, e_sv, e_b1, e_b2, x_o1, x_o2, r_P10, r_F10, c_up_s, ip, i1, kk, a3, ko, kq, b3, k1, k]
    · have i1 := r_in0 (M := M) q1
      refine ⟨0, _, ?_, f1.1, f1.2.1, t1⟩
      rw [r_ent (show e_rok 206 [192, p, c] = true from decide_eq_true r_ref)]
      show e_tv E_C (E_V 206) e_t206_0 [192, p, c, 0, 0] M = _
      unfold e_t206_0
      simp [e_tv, e_ev, e_sv, e_b1, e_b2, x_o1, x_o2, r_P10, r_F10, c_up_s, ip, i1]
  · have ip := r_ip0 hW q0
    refine ⟨0, _, ?_, f1.1, f1.2.1, t1⟩
    rw [r_ent (show e_rok 206 [192, p, c] = true from decide_eq_true r_ref)]
    show e_tv E_C (E_V 206) e_t206_0 [192, p, c, 0, 0] M = _
    unfold e_t206_0
    simp [e_tv, e_ev, e_sv, e_b1, e_b2, x_o1, x_o2, r_P10, r_F10, c_up_s, ip]
end
