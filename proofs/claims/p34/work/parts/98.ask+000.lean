/-! hump, held, lit, strength of the reference -/
theorem r_hump_117 {p i u : Int} {M : EM} (hu : u ≤ 500 ∧ 0 ≤ u) {n later : Int} {r : Int} (k : E_V 212 25 [192, p, i, n, u + 1, later] M = some (r, M)) : E_V 212 117 [192, p, i, n, u, later] M = some (r, M) := by
  have w4 : e_w (u + 1) = u + 1 := a_w_id (by omega) (by omega)
  rw [E_V_eq]
  show e_tv E_C (E_V 212) e_t212_117 [192, p, i, n, u, later] M = _
  unfold e_t212_117
  simp [e_tv, e_ev, e_sv, e_b1, e_b2, x_o1, x_o2, w4, k]
theorem r_hump_in {p i u : Int} {M : EM} (hM : a_M M) (hu : 1 ≤ u ∧ u < 500) (H : ∀ n later, ∃ r, E_V 212 25 [192, p, i, n, u + 1, later] M = some (r, M)) : ∀ (m : Nat) (n x5 : Int), (502 - x5).toNat ≤ m → 0 ≤ x5 → x5 ≤ 501 → ∃ r, E_V 212 59 [192, p, i, n, u, x5] M = some (r, M) := by
  obtain ⟨a, ka, ha⟩ := r_power (u := u) hM (by omega)
  intro m
  induction m with
  | zero => intro n x5 hm h0 h1; omega
  | succ m ih =>
    intro n x5 hm h0 h1
    obtain ⟨b, kb, hb⟩ := r_power (u := x5) hM h0
    by_cases q : x5 ≤ 500 ∧ b = a
    · obtain ⟨q, q1⟩ := q
      have w4 : e_w (x5 + 1) = x5 + 1 := a_w_id (by omega) (by omega)
      obtain ⟨r, k⟩ := ih n (x5 + 1) (by omega) (by omega) (by omega)
      refine ⟨r, ?_⟩
      subst q1
      rw [E_V_eq]
      show e_tv E_C (E_V 212) e_t212_59 [192, p, i, n, u, x5] M = _
      unfold e_t212_59
      simp [e_tv, e_ev, e_sv, e_b1, e_b2, x_o1, x_o2, q, ka, kb, w4, k]
    · have key : ∀ (t : EO), (e_tv E_C (E_V 212) e_t212_59 [192, p, i, n, u, x5] M = t) → E_V 212 59 [192, p, i, n, u, x5] M = t := fun t h => (E_V_eq 212 59 _ M).trans h
      rcases x_le a b with ⟨c1, c1_n⟩ | ⟨c1, c1_n⟩
      · obtain ⟨r, k⟩ := H n x5
        have k1 := r_hump_117 (u := u) ⟨by omega, by omega⟩ k
        refine ⟨r, key _ ?_⟩
        unfold e_t212_59
        rcases x_le x5 500 with ⟨q0, q0_n⟩ | ⟨q0, q0_n⟩
        · have q1 : ¬ (b = a) := fun e => q ⟨q0, e⟩
          simp [e_tv, e_ev, e_sv, e_b1, e_b2, x_o1, x_o2, q0, q0_n, q1, ka, kb, c1, c1_n, k1]
        · simp [e_tv, e_ev, e_sv, e_b1, e_b2, x_o1, x_o2, q0, q0_n, ka, kb, c1, c1_n, k1]
      · by_cases c2 : n = i
        · refine ⟨u, key _ ?_⟩
          subst c2
          unfold e_t212_59
          rcases x_le x5 500 with ⟨q0, q0_n⟩ | ⟨q0, q0_n⟩
          · have q1 : ¬ (b = a) := fun e => q ⟨q0, e⟩
            simp [e_tv, e_ev, e_sv, e_b1, e_b2, x_o1, x_o2, q0, q0_n, q1, ka, kb, c1, c1_n]
          · simp [e_tv, e_ev, e_sv, e_b1, e_b2, x_o1, x_o2, q0, q0_n, ka, kb, c1, c1_n]
        · obtain ⟨r, k⟩ := H (e_w (n + 1)) x5
          have k1 := r_hump_117 (u := u) ⟨by omega, by omega⟩ k
          refine ⟨r, key _ ?_⟩
          unfold e_t212_59
          rcases x_le x5 500 with ⟨q0, q0_n⟩ | ⟨q0, q0_n⟩
          · have q1 : ¬ (b = a) := fun e => q ⟨q0, e⟩
            simp [e_tv, e_ev, e_sv, e_b1, e_b2, x_o1, x_o2, q0, q0_n, q1, ka, kb, c1, c1_n, c2, k1]
          · simp [e_tv, e_ev, e_sv, e_b1, e_b2, x_o1, x_o2, q0, q0_n, ka, kb, c1, c1_n, c2, k1]
theorem r_hump_out {p i : Int} {M : EM} (hM : a_M M) : ∀ (m : Nat) (n u x5 : Int), (500 - u).toNat ≤ m → 1 ≤ u → u ≤ 500 → ∃ r, E_V 212 25 [192, p, i, n, u, x5] M = some (r, M) := by
  have hend : ∀ n u x5, ¬ (u < 500) → ∃ r, E_V 212 25 [192, p, i, n, u, x5] M = some (r, M) := by
    intro n u x5 q
    by_cases c : i = -1
    · refine ⟨n, ?_⟩
      rw [E_V_eq]
      show e_tv E_C (E_V 212) e_t212_25 [192, p, i, n, u, x5] M = _
      unfold e_t212_25
      simp [e_tv, e_ev, e_sv, e_b1, e_b2, x_o1, x_o2, q, c]
    · refine ⟨-4, ?_⟩
      rw [E_V_eq]
      show e_tv E_C (E_V 212) e_t212_25 [192, p, i, n, u, x5] M = _
      unfold e_t212_25
      simp [e_tv, e_ev, e_sv, e_b1, e_b2, x_o1, x_o2, q, c]
  intro m
  induction m with
  | zero => intro n u x5 hm h0 h1; exact hend n u x5 (by omega)
  | succ m ih =>
    intro n u x5 hm h0 h1
    rcases x_lt u 500 with ⟨q, q_n⟩ | ⟨q, q_n⟩
    · have w4 : e_w (u + 1) = u + 1 := a_w_id (by omega) (by omega)
      have w5 : e_w (u - 1) = u - 1 := a_w_id (by omega) (by omega)
      obtain ⟨a, ka, ha⟩ := r_power (u := u) hM (by omega)
      obtain ⟨b, kb, hb⟩ := r_power (u := u - 1) hM (by omega)
      have H : ∀ n later, ∃ r, E_V 212 25 [192, p, i, n, u + 1, later] M = some (r, M) := fun n later => ih n (u + 1) later (by omega) (by omega) (by omega)
      rcases x_le a b with ⟨c, c_n⟩ | ⟨c, c_n⟩
      · obtain ⟨r, k⟩ := H n x5
        have k1 := r_hump_117 (u := u) ⟨by omega, by omega⟩ k
        refine ⟨r, ?_⟩
        rw [E_V_eq]
        show e_tv E_C (E_V 212) e_t212_25 [192, p, i, n, u, x5] M = _
        unfold e_t212_25
        simp [e_tv, e_ev, e_sv, e_b1, e_b2, x_o1, x_o2, q, q_n, w5, ka, kb, c, c_n, k1]
      · obtain ⟨r, k⟩ := r_hump_in (p := p) (i := i) hM ⟨h0, q⟩ H 502 n (u + 1) (by omega) (by omega) (by omega)
        refine ⟨r, ?_⟩
        rw [E_V_eq]
        show e_tv E_C (E_V 212) e_t212_25 [192, p, i, n, u, x5] M = _
        unfold e_t212_25
        simp [e_tv, e_ev, e_sv, e_b1, e_b2, x_o1, x_o2, q, q_n, w4, w5, ka, kb, c, c_n, k]
    · exact hend n u x5 q
theorem r_hump {p i : Int} {M : EM} (hJ : r_J M) : r_Q 212 [192, p, i] M := by
  have hE := r_J_E hJ
  have hW := hE.2.1
  by_cases q0 : 0 ≤ p ∧ p < r_G M 1198
  · have ip := r_ip1 hW q0
    rcases x_lt i (-1) with ⟨q1, q1_n⟩ | ⟨q1, q1_n⟩
    · refine r_same (r := -1) hJ ?_
      rw [r_ent (show e_rok 212 [192, p, i] = true from decide_eq_true r_ref)]
      show e_tv E_C (E_V 212) e_t212_0 [192, p, i, 0, 0, 0] M = _
      unfold e_t212_0
      simp [e_tv, e_ev, e_sv, e_b1, e_b2, x_o1, x_o2, ip, q1, q1_n]
    · obtain ⟨M1, k1, e1⟩ := r_gives hE hW.2.1 (r_pt_of hW q0)
      obtain ⟨r, k⟩ := r_hump_out (p := p) (i := i) e1.1 499 0 1 0 (by decide) (by decide) (by decide)
      refine ⟨r, M1, ?_, e1.1, r_evq e1, by rw [r_ev_same e1 (by decide) (by decide)]; exact hJ.2.2.2.2⟩
      rw [r_ent (show e_rok 212 [192, p, i] = true from decide_eq_true r_ref)]
      show e_tv E_C (E_V 212) e_t212_0 [192, p, i, 0, 0, 0] M = _
      unfold e_t212_0
      simp [e_tv, e_ev, e_sv, e_b1, e_b2, x_o1, x_o2, ip, q1, q1_n, k1, k]
  · have ip := r_ip0 hW q0
    refine r_same (r := -1) hJ ?_
    rw [r_ent (show e_rok 212 [192, p, i] = true from decide_eq_true r_ref)]
    show e_tv E_C (E_V 212) e_t212_0 [192, p, i, 0, 0, 0] M = _
    unfold e_t212_0
    simp [e_tv, e_ev, e_sv, e_b1, e_b2, x_o1, x_o2, ip]
