/-! PARTING by the reference -/
theorem r_wp_in {d x3 x4 : Int} {M : EM} (hd : 0 ≤ d ∧ d ≤ 7) (h3 : 0 ≤ x3 ∧ x3 < 120) (H : ∀ x5, ∃ r, E_V 238 37 [192, d, 0, x3 + 1, x4, x5] M = some (r, M) ∧ (r = 0 ∨ r = -13)) : ∀ (m : Nat) (x5 : Int), (x3 - x5).toNat ≤ m → 0 ≤ x5 → ∃ r, E_V 238 84 [192, d, 0, x3, x4, x5] M = some (r, M) ∧ (r = 0 ∨ r = -13) := by
  have w0 : e_w (x3 + 1) = x3 + 1 := a_w_id (by omega) (by omega)
  have hend : ∀ x5, ¬ (x5 < x3) → ∃ r, E_V 238 84 [192, d, 0, x3, x4, x5] M = some (r, M) ∧ (r = 0 ∨ r = -13) := by
    intro x5 q
    obtain ⟨r, k, hr⟩ := H x5
    refine ⟨r, ?_, hr⟩
    rw [E_V_eq]
    show e_tv E_C (E_V 238) e_t238_84 [192, d, 0, x3, x4, x5] M = _
    unfold e_t238_84
    simp [e_tv, e_ev, e_sv, e_b1, e_b2, x_o1, x_o2, q, w0, k]
  intro m
  induction m with
  | zero => intro x5 hm h0; exact hend x5 (by omega)
  | succ m ih =>
    intro x5 hm h0
    rcases x_lt x5 x3 with ⟨q, q_n⟩ | ⟨q, q_n⟩
    · have w1 : e_w (120 * d) = 120 * d := a_w_id (by omega) (by omega)
      have w2 : e_w (120 * d + x5) = 120 * d + x5 := a_w_id (by omega) (by omega)
      have w4 : e_w (x5 + 1) = x5 + 1 := a_w_id (by omega) (by omega)
      have le := r_rdE (i := 120 * d + x5) (M := M) (by omega) (by omega)
      by_cases c : M 198 (120 * d + x5).toNat = x4
      · refine ⟨-13, ?_, Or.inr rfl⟩
        rw [E_V_eq]
        show e_tv E_C (E_V 238) e_t238_84 [192, d, 0, x3, x4, x5] M = _
        unfold e_t238_84
        simp [e_tv, e_ev, e_sv, e_b1, e_b2, x_o1, x_o2, r_O5, q, q_n, w1, w2, le, c]
      · obtain ⟨r, k, hr⟩ := ih (x5 + 1) (by omega) (by omega)
        refine ⟨r, ?_, hr⟩
        rw [E_V_eq]
        show e_tv E_C (E_V 238) e_t238_84 [192, d, 0, x3, x4, x5] M = _
        unfold e_t238_84
        simp [e_tv, e_ev, e_sv, e_b1, e_b2, x_o1, x_o2, r_O5, q, q_n, w1, w2, w4, le, c, k]
    · exact hend x5 q
/-- the first n elements of SHELF d are CELLS -/
def r_cells (M : EM) (d n : Int) : Prop := ∀ k, 0 ≤ k → k < n → r_cl (r_G M) 40 (M 198 (120 * d + k).toNat)
theorem r_wp_out {d : Int} {M : EM} (hJ : r_J M) (hd : 0 ≤ d ∧ d ≤ 7) : ∀ (m : Nat) (x3 x4 x5 : Int), (120 - x3).toNat ≤ m → 0 ≤ x3 → r_cells M d x3 → x3 ≤ M 197 d.toNat → ∃ r, E_V 238 37 [192, d, 0, x3, x4, x5] M = some (r, M) ∧ (r = 0 ∨ r = -13) ∧ (r = 0 → r_cells M d (M 197 d.toNat)) := by
  have hz := hJ.2.1 d.toNat (by omega)
  have ls := (r_isD d M hd).2.2.1
  have hW := (r_J_E hJ).2.1
  have hend : ∀ x3 x4 x5, ¬ (x3 < M 197 d.toNat) → r_cells M d x3 → x3 ≤ M 197 d.toNat → ∃ r, E_V 238 37 [192, d, 0, x3, x4, x5] M = some (r, M) ∧ (r = 0 ∨ r = -13) ∧ (r = 0 → r_cells M d (M 197 d.toNat)) := by
    intro x3 x4 x5 q hc h3
    refine ⟨0, ?_, Or.inl rfl, fun _ => by rw [show M 197 d.toNat = x3 by omega]; exact hc⟩
    rw [E_V_eq]
    show e_tv E_C (E_V 238) e_t238_37 [192, d, 0, x3, x4, x5] M = _
    unfold e_t238_37
    simp [e_tv, e_ev, e_sv, e_b1, e_b2, x_o1, x_o2, r_O4, ls, q]
  intro m
  induction m with
  | zero => intro x3 x4 x5 hm h0 hc h3; exact hend x3 x4 x5 (by omega) hc h3
  | succ m ih =>
    intro x3 x4 x5 hm h0 hc h3
    rcases x_lt x3 (M 197 d.toNat) with ⟨q, q_n⟩ | ⟨q, q_n⟩
    · have w1 : e_w (120 * d) = 120 * d := a_w_id (by omega) (by omega)
      have w2 : e_w (120 * d + x3) = 120 * d + x3 := a_w_id (by omega) (by omega)
      have le := r_rdE (i := 120 * d + x3) (M := M) (by omega) (by omega)
      generalize hp : M 198 (120 * d + x3).toNat = p at le
      by_cases c1 : 0 ≤ p ∧ p < r_G M 1198
      · have ip := r_ip1 hW c1
        have h40 := r_40 hW c1
        have kk : E_C 170 [192, p] M = some (r_G M (28 * p), M) := r_kind h40
        by_cases c2 : r_G M (28 * p) = 0
        · have hcl : r_cl (r_G M) 40 p := r_cl_up (r_pt_cell (r_pt_of hW c1) c2) hW.2.1
          have hc' : r_cells M d (x3 + 1) := by
            intro k k0 k1
            by_cases hk : k = x3
            · subst hk; rw [hp]; exact hcl
            · exact hc k k0 (by omega)
          have HH : ∀ y5, ∃ r, E_V 238 37 [192, d, 0, x3 + 1, p, y5] M = some (r, M) ∧ (r = 0 ∨ r = -13) ∧ (r = 0 → r_cells M d (M 197 d.toNat)) := fun y5 => ih (x3 + 1) p y5 (by omega) (by omega) hc' (by omega)
          obtain ⟨r, k, hr⟩ := r_wp_in (x4 := p) hd ⟨h0, by omega⟩ (fun y5 => by
            obtain ⟨r, k, hr, -⟩ := HH y5
            exact ⟨r, k, hr⟩) _ 0 (Nat.le_refl _) (by decide)
          refine ⟨r, ?_, hr, fun hr0 => ?_⟩
          · rw [E_V_eq]
            show e_tv E_C (E_V 238) e_t238_37 [192, d, 0, x3, x4, x5] M = _
            unfold e_t238_37
            simp [e_tv, e_ev, e_sv, e_b1, e_b2, x_o1, x_o2, r_O4, r_O5, ls, q, q_n, w1, w2, le, ip, kk, c2, k]
          · -- r = 0 says that what follows said 0
            by_cases hx : x3 + 1 = M 197 d.toNat
            · rw [← hx]; exact hc'
            · have key : ∀ (m : Nat) (y5 : Int), (x3 - y5).toNat ≤ m → 0 ≤ y5 → ∀ r, E_V 238 84 [192, d, 0, x3, p, y5] M = some (r, M) → r = 0 → r_cells M d (M 197 d.toNat) := by
                intro m
                induction m with
                | zero =>
                  intro y5 hm1 hy0 r1 hk1 hr1
                  obtain ⟨r2, k2, -, h2⟩ := HH y5
                  have w0 : e_w (x3 + 1) = x3 + 1 := a_w_id (by omega) (by omega)
                  have hq : ¬ (y5 < x3) := by omega
                  rw [E_V_eq] at hk1
                  have e : e_tv E_C (E_V 238) e_t238_84 [192, d, 0, x3, p, y5] M = some (r2, M) := by
                    unfold e_t238_84
                    simp [e_tv, e_ev, e_sv, e_b1, e_b2, x_o1, x_o2, hq, w0, k2]
                  have e2 := hk1.symm.trans e
                  cases e2
                  exact h2 hr1
                | succ m ihm =>
                  intro y5 hm1 hy0 r1 hk1 hr1
                  rcases x_lt y5 x3 with ⟨hq, hq_n⟩ | ⟨hq, hq_n⟩
                  · have v2 : e_w (120 * d + y5) = 120 * d + y5 := a_w_id (by omega) (by omega)
                    have v4 : e_w (y5 + 1) = y5 + 1 := a_w_id (by omega) (by omega)
                    have ve := r_rdE (i := 120 * d + y5) (M := M) (by omega) (by omega)
                    rw [E_V_eq] at hk1
                    by_cases c : M 198 (120 * d + y5).toNat = p
                    · have e : e_tv E_C (E_V 238) e_t238_84 [192, d, 0, x3, p, y5] M = some (-13, M) := by
                        unfold e_t238_84
                        simp [e_tv, e_ev, e_sv, e_b1, e_b2, x_o1, x_o2, r_O5, hq, hq_n, w1, v2, ve, c]
                      have e2 := hk1.symm.trans e
                      cases e2
                      exact absurd hr1 (by decide)
                    · have e : e_tv E_C (E_V 238) e_t238_84 [192, d, 0, x3, p, y5] M = E_V 238 84 [192, d, 0, x3, p, y5 + 1] M := by
                        unfold e_t238_84
                        simp [e_tv, e_ev, e_sv, e_b1, e_b2, x_o1, x_o2, r_O5, hq, hq_n, w1, v2, v4, ve, c]
                      exact ihm (y5 + 1) (by omega) (by omega) r1 (e.symm.trans hk1) hr1
                  · obtain ⟨r2, k2, -, h2⟩ := HH y5
                    have w0 : e_w (x3 + 1) = x3 + 1 := a_w_id (by omega) (by omega)
                    rw [E_V_eq] at hk1
                    have e : e_tv E_C (E_V 238) e_t238_84 [192, d, 0, x3, p, y5] M = some (r2, M) := by
                      unfold e_t238_84
                      simp [e_tv, e_ev, e_sv, e_b1, e_b2, x_o1, x_o2, hq, hq_n, w0, k2]
                    have e2 := hk1.symm.trans e
                    cases e2
                    exact h2 hr1
              exact key _ 0 (Nat.le_refl _) (by decide) r k hr0
        · refine ⟨-13, ?_, Or.inr rfl, fun h => absurd h (by decide)⟩
          rw [E_V_eq]
          show e_tv E_C (E_V 238) e_t238_37 [192, d, 0, x3, x4, x5] M = _
          unfold e_t238_37
          simp [e_tv, e_ev, e_sv, e_b1, e_b2, x_o1, x_o2, r_O4, r_O5, ls, q, q_n, w1, w2, le, ip, kk, c2]
      · have ip := r_ip0 hW c1
        refine ⟨-13, ?_, Or.inr rfl, fun h => absurd h (by decide)⟩
        rw [E_V_eq]
        show e_tv E_C (E_V 238) e_t238_37 [192, d, 0, x3, x4, x5] M = _
        unfold e_t238_37
        simp [e_tv, e_ev, e_sv, e_b1, e_b2, x_o1, x_o2, r_O4, r_O5, ls, q, q_n, w1, w2, le, ip]
    · exact hend x3 x4 x5 q hc h3
