theorem r_current {p u : Int} {M : EM} (hJ : r_J M) : r_Q 207 [192, p, u] M := by
  have hE := r_J_E hJ
  have hW := hE.2.1
  by_cases q0 : 0 ≤ p ∧ p < r_G M 1198
  · have ip := r_ip1 hW q0
    by_cases q1 : -50 ≤ u ∧ u ≤ 999
    · have i1 := r_in1 (M := M) q1
      obtain ⟨r, k, hr⟩ := r_currentOf (u := u) hE hW.2.1 (r_pt_of hW q0)
      refine r_same (r := r) hJ ?_
      rw [r_ent (show e_rok 207 [192, p, u] = true from decide_eq_true r_ref)]
      show e_tv E_C (E_V 207) e_t207_0 [192, p, u] M = _
      unfold e_t207_0
      simp [e_tv, e_ev, e_sv, e_b1, e_b2, x_o1, x_o2, ip, i1, k]
    · have i1 := r_in0 (M := M) q1
      refine r_same (r := -1) hJ ?_
      rw [r_ent (show e_rok 207 [192, p, u] = true from decide_eq_true r_ref)]
      show e_tv E_C (E_V 207) e_t207_0 [192, p, u] M = _
      unfold e_t207_0
      simp [e_tv, e_ev, e_sv, e_b1, e_b2, x_o1, x_o2, ip, i1]
  · have ip := r_ip0 hW q0
    refine r_same (r := -1) hJ ?_
    rw [r_ent (show e_rok 207 [192, p, u] = true from decide_eq_true r_ref)]
    show e_tv E_C (E_V 207) e_t207_0 [192, p, u] M = _
    unfold e_t207_0
    simp [e_tv, e_ev, e_sv, e_b1, e_b2, x_o1, x_o2, ip]
theorem r_best {p w : Int} {M : EM} (hJ : r_J M) : r_Q 210 [192, p, w] M := by
  have hE := r_J_E hJ
  have hW := hE.2.1
  by_cases q0 : 0 ≤ p ∧ p < r_G M 1198
  · have ip := r_ip1 hW q0
    by_cases q1 : 0 ≤ w ∧ w ≤ 2
    · have i1 := r_in1 (M := M) q1
      obtain ⟨M1, k1, e1⟩ := r_gives hE hW.2.1 (r_pt_of hW q0)
      obtain ⟨u, ku, hu⟩ := r_bestOf e1.1
      have g1 := r_rd5 (M := M1) hu.1 (by omega)
      have h20 : M1 192 20 = -1 := by rw [r_ev_same e1 (by decide) (by decide)]; exact hJ.2.2.2.2
      by_cases q2 : w = 0
      · subst q2
        refine ⟨e_w (u * M1 205 u.toNat), M1, ?_, e1.1, r_evq e1, h20⟩
        rw [r_ent (show e_rok 210 [192, p, 0] = true from decide_eq_true r_ref)]
        show e_tv E_C (E_V 210) e_t210_0 [192, p, 0, 0] M = _
        unfold e_t210_0
        simp [e_tv, e_ev, e_sv, e_b1, e_b2, x_o1, x_o2, r_O25, ip, i1, k1, ku, g1]
      · by_cases q3 : w = 1
        · subst q3
          refine ⟨u, M1, ?_, e1.1, r_evq e1, h20⟩
          rw [r_ent (show e_rok 210 [192, p, 1] = true from decide_eq_true r_ref)]
          show e_tv E_C (E_V 210) e_t210_0 [192, p, 1, 0] M = _
          unfold e_t210_0
          simp [e_tv, e_ev, e_sv, e_b1, e_b2, x_o1, x_o2, r_O25, ip, i1, k1, ku, g1]
        · refine ⟨M1 205 u.toNat, M1, ?_, e1.1, r_evq e1, h20⟩
          rw [r_ent (show e_rok 210 [192, p, w] = true from decide_eq_true r_ref)]
          show e_tv E_C (E_V 210) e_t210_0 [192, p, w, 0] M = _
          unfold e_t210_0
          simp [e_tv, e_ev, e_sv, e_b1, e_b2, x_o1, x_o2, r_O25, ip, i1, k1, ku, g1, q2, q3]
    · have i1 := r_in0 (M := M) q1
      refine r_same (r := -1) hJ ?_
      rw [r_ent (show e_rok 210 [192, p, w] = true from decide_eq_true r_ref)]
      show e_tv E_C (E_V 210) e_t210_0 [192, p, w, 0] M = _
      unfold e_t210_0
      simp [e_tv, e_ev, e_sv, e_b1, e_b2, x_o1, x_o2, ip, i1]
  · have ip := r_ip0 hW q0
    refine r_same (r := -1) hJ ?_
    rw [r_ent (show e_rok 210 [192, p, w] = true from decide_eq_true r_ref)]
    show e_tv E_C (E_V 210) e_t210_0 [192, p, w, 0] M = _
    unfold e_t210_0
    simp [e_tv, e_ev, e_sv, e_b1, e_b2, x_o1, x_o2, ip]
theorem r_push_loop {p c x3 : Int} {M : EM} (hM : a_M M) : ∀ (m : Nat) (x4 : Int), (x4 + 1).toNat ≤ m → x4 ≤ 999 → -1 ≤ x4 → ∃ r, E_V 206 86 [192, p, c, x3, x4] M = some (r, M) := by
  have hend : ∀ x4, ¬ (0 ≤ x4) → ∃ r, E_V 206 86 [192, p, c, x3, x4] M = some (r, M) := by
    intro x4 q
    refine ⟨x4, ?_⟩
    rw [E_V_eq]
    show e_tv E_C (E_V 206) e_t206_86 [192, p, c, x3, x4] M = _
    unfold e_t206_86
    simp [e_tv, e_ev, e_sv, e_b1, e_b2, x_o1, x_o2, q]
  intro m
  induction m with
  | zero => intro x4 hm h0 h1; exact hend x4 (by omega)
  | succ m ih =>
    intro x4 hm h0 h1
    rcases x_le 0 x4 with ⟨q, q_n⟩ | ⟨q, q_n⟩
    · have g1 := r_rd5 (M := M) q (by omega)
      rcases x_lt (M 205 x4.toNat) c with ⟨c1, c1_n⟩ | ⟨c1, c1_n⟩
      · have w4 : e_w (x4 + -1) = x4 - 1 := a_w_id (by omega) (by omega)
        obtain ⟨r, k⟩ := ih (x4 - 1) (by omega) (by omega) (by omega)
        refine ⟨r, ?_⟩
        rw [E_V_eq]
        show e_tv E_C (E_V 206) e_t206_86 [192, p, c, x3, x4] M = _
        unfold e_t206_86
        simp [e_tv, e_ev, e_sv, e_b1, e_b2, x_o1, x_o2, r_O25, q, q_n, g1, c1, c1_n, w4, k]
      · refine ⟨x4, ?_⟩
        rw [E_V_eq]
        show e_tv E_C (E_V 206) e_t206_86 [192, p, c, x3, x4] M = _
        unfold e_t206_86
        simp [e_tv, e_ev, e_sv, e_b1, e_b2, x_o1, x_o2, r_O25, q, q_n, g1, c1, c1_n]
    · exact hend x4 q
theorem r_push {p c : Int} {M : EM} (hJ : r_J M) : r_Q 206 [192, p, c] M := by
  have hE := r_J_E hJ
  have hW := hE.2.1
  have f1 := r_fup (M := M) (k := 10) (v := 1) (by decide) (by decide) hJ.1
  have f0 := r_fup (M := M) (k := 10) (v := 0) (by decide) (by decide) hJ.1
  have t1 : (e_up M 192 10 1) 192 20 = -1 := (r_up20 (by decide)).trans hJ.2.2.2.2
  have t0 : (e_up M 192 10 0) 192 20 = -1 := (r_up20 (by decide)).trans hJ.2.2.2.2
  by_cases q0 : 0 ≤ p ∧ p < r_G M 1198
  · have ip := r_ip1 hW q0
    have h40 := r_40 hW q0
    by_cases q1 : 0 ≤ c ∧ c ≤ 999
    · have i1 := r_in1 (M := M) q1
      have hp := r_pt_of hW q0
      have E1 : r_E (e_up M 192 10 0) := r_E_f hE (by decide) (by decide) (by decide)
      have kk : E_C 170 [192, p] (e_up M 192 10 0) = some (r_G M (28 * p), e_up M 192 10 0) := by rw [← f0.2.2]; exact r_kind h40
      have hlow : ∀ b q, b ≤ 40 → (r_cl (r_G M) b q ∨ r_rw (r_G M) b q) → r_P 201 [192, q, c] (e_up M 192 10 0) := fun b q hb hq => r_lowPush E1 hb (by rw [f0.2.2]; exact hq)
      have hfd : ∀ b q, b ≤ 40 → r_fd (r_G M) b q → ∃ M1, E_C 203 [192, q] (e_up M 192 10 0) = some (0, M1) ∧ r_ev (e_up M 192 10 0) M1 := fun b q hb hq => r_gives E1 hb (Or.inr (Or.inr (Or.inl (by rw [f0.2.2]; exact hq))))
      rcases hp with hp | hp | hp | hp
      · obtain ⟨l, kl, hl⟩ := hlow _ _ hW.2.1 (Or.inl hp)
        have a3 := hp.2.2.1
        refine ⟨l, _, ?_, f0.1, f0.2.1, t0⟩
        rw [r_ent (show e_rok 206 [192, p, c] = true from decide_eq_true r_ref)]
        show e_tv E_C (E_V 206) e_t206_0 [192, p, c, 0, 0] M = _
        unfold e_t206_0
        simp [e_tv, e_ev, e_sv, e_b1, e_b2, x_o1, x_o2, r_P10, r_F10, c_up_s, ip, i1, kk, a3, kl]
      · obtain ⟨l, kl, hl⟩ := hlow _ _ hW.2.1 (Or.inr hp)
        have a3 := hp.2.2.1
        refine ⟨l, _, ?_, f0.1, f0.2.1, t0⟩
        rw [r_ent (show e_rok 206 [192, p, c] = true from decide_eq_true r_ref)]
        show e_tv E_C (E_V 206) e_t206_0 [192, p, c, 0, 0] M = _
        unfold e_t206_0
        simp [e_tv, e_ev, e_sv, e_b1, e_b2, x_o1, x_o2, r_P10, r_F10, c_up_s, ip, i1, kk, a3, kl]
      · obtain ⟨M1, k1, e1⟩ := hfd _ _ hW.2.1 hp
        have a3 := hp.2.2.1
        obtain ⟨r, k⟩ := r_push_loop (p := p) (c := c) (x3 := p) e1.1 1000 999 (by decide) (by decide) (by decide)
        refine ⟨r, M1, ?_, e1.1, a_fr_tr f0.2.1 (r_evq e1), by rw [r_ev_same e1 (by decide) (by decide)]; exact t0⟩
        rw [r_ent (show e_rok 206 [192, p, c] = true from decide_eq_true r_ref)]
        show e_tv E_C (E_V 206) e_t206_0 [192, p, c, 0, 0] M = _
        unfold e_t206_0
        simp [e_tv, e_ev, e_sv, e_b1, e_b2, x_o1, x_o2, r_P10, r_F10, c_up_s, ip, i1, kk, a3, k1, k]
      · obtain ⟨a1, a2, a3, a4, a5⟩ := hp
        have ko : E_C 172 [192, p, 0] (e_up M 192 10 0) = some (r_G M (28 * p + 3), e_up M 192 10 0) := by
          have h := r_of (M := e_up M 192 10 0) (p := p) (k := 0) h40 ⟨by decide, by decide⟩
          rw [Int.add_zero] at h
          rw [← f0.2.2]
          exact h
        have hq : 0 ≤ r_G M (28 * p + 3) ∧ r_G M (28 * p + 3) < 40 := by
          rcases a5 with h | h | h
          · exact ⟨h.1, by have := h.2.1; omega⟩
          · exact ⟨h.1, by have := h.2.1; omega⟩
          · exact ⟨h.1, by have := h.2.1; omega⟩
        have kq : E_C 170 [192, r_G M (28 * p + 3)] (e_up M 192 10 0) = some (r_G M (28 * r_G M (28 * p + 3)), e_up M 192 10 0) := by
          have h := r_kind (M := e_up M 192 10 0) hq
          have h2 := congrFun f0.2.2 (28 * r_G M (28 * p + 3))
          unfold r_G at h2 ⊢
          unfold r_G at h
          rw [h2] at h
          exact h
        rcases a5 with h | h | h
        · obtain ⟨l, kl, hl⟩ := hlow _ _ (by omega) (Or.inl h)
          have b3 := h.2.2.1
          refine ⟨l, _, ?_, f0.1, f0.2.1, t0⟩
          rw [r_ent (show e_rok 206 [192, p, c] = true from decide_eq_true r_ref)]
          show e_tv E_C (E_V 206) e_t206_0 [192, p, c, 0, 0] M = _
          unfold e_t206_0
          simp [e_tv, e_ev, e_sv, e_b1, e_b2, x_o1, x_o2, r_P10, r_F10, c_up_s, ip, i1, kk, a3, ko, kq, b3, kl]
        · obtain ⟨l, kl, hl⟩ := hlow _ _ (by omega) (Or.inr h)
          have b3 := h.2.2.1
          refine ⟨l, _, ?_, f0.1, f0.2.1, t0⟩
          rw [r_ent (show e_rok 206 [192, p, c] = true from decide_eq_true r_ref)]
          show e_tv E_C (E_V 206) e_t206_0 [192, p, c, 0, 0] M = _
          unfold e_t206_0
          simp [e_tv, e_ev, e_sv, e_b1, e_b2, x_o1, x_o2, r_P10, r_F10, c_up_s, ip, i1, kk, a3, ko, kq, b3, kl]
        · obtain ⟨M1, k1, e1⟩ := hfd _ _ (by omega) h
          have b3 := h.2.2.1
          obtain ⟨r, k⟩ := r_push_loop (p := p) (c := c) (x3 := r_G M (28 * p + 3)) e1.1 1000 999 (by decide) (by decide) (by decide)
          refine ⟨r, M1, ?_, e1.1, a_fr_tr f0.2.1 (r_evq e1), by rw [r_ev_same e1 (by decide) (by decide)]; exact t0⟩
          rw [r_ent (show e_rok 206 [192, p, c] = true from decide_eq_true r_ref)]
          show e_tv E_C (E_V 206) e_t206_0 [192, p, c, 0, 0] M = _
          unfold e_t206_0
          simp [e_tv, e_ev, e_sv, e_b1, e_b2, x_o1, x_o2, r_P10, r_F10, c_up_s, ip, i1, kk, a3, ko, kq, b3, k1, k]
    · have i1 := r_in0 (M := M) q1
      refine ⟨0, _, ?_, f1.1, f1.2.1, t1⟩
      rw [r_ent (show e_rok 206 [192, p, c] = true from decide_eq_true r_ref)]
      show e_tv E_C (E_V 206) e_t206_0 [192, p, c, 0, 0] M = _
      unfold e_t206_0
      simp [e_tv, e_ev, e_sv, e_b1, e_b2, x_o1, x_o2, r_P10, r_F10, c_up_s, ip, i1]
  · have ip := r_ip0 hW q0
    refine ⟨0, _, ?_, f1.1, f1.2.1, t1⟩
    rw [r_ent (show e_rok 206 [192, p, c] = true from decide_eq_true r_ref)]
    show e_tv E_C (E_V 206) e_t206_0 [192, p, c, 0, 0] M = _
    unfold e_t206_0
    simp [e_tv, e_ev, e_sv, e_b1, e_b2, x_o1, x_o2, r_P10, r_F10, c_up_s, ip]

