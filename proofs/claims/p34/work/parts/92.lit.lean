theorem r_lit_in {p h x3 hi : Int} {M : EM} (hM : a_M M) (hh : 0 ≤ h ∧ h ≤ 11) {x6 : Int} (h6 : 0 ≤ x6 ∧ x6 ≤ 19) (hx3 : 0 ≤ x3 ∧ x3 ≤ 1112) (hi1 : r_G M (x3 + 4) = hi) (hhi : 0 ≤ hi ∧ hi ≤ 11) (H : ∀ x4 x5 x7, 0 < x4 → x4 ≤ 12 * (x6 + 1) → ∃ r, E_V 223 36 [192, p, h, x3, x4, x5, x6 + 1, x7] M = some (r, M) ∧ -2147483648 ≤ r ∧ r ≤ 2147483647) : ∀ (m : Nat) (x4 x5 x7 : Int), (hi + 1 - x7).toNat ≤ m → 0 ≤ x7 → x7 ≤ 12 → 0 ≤ x4 → x4 ≤ 12 * x6 + x7 → (0 < x4 ∨ x7 ≤ hi) → ∃ r, E_V 223 59 [192, p, h, x3, x4, x5, x6, x7] M = some (r, M) ∧ -2147483648 ≤ r ∧ r ≤ 2147483647 := by
  have w1 : e_w (x3 + 4) = x3 + 4 := a_w_id (by omega) (by omega)
  have w2 : e_w (x6 + 1) = x6 + 1 := a_w_id (by omega) (by omega)
  have l1 : e_op 60 [193, x3 + 4] M = some hi := (r_rd (by omega) (by omega)).trans (congrArg some hi1)
  have hend : ∀ x4 x5 x7, ¬ (x7 ≤ hi) → 0 < x4 → x7 ≤ 12 → x4 ≤ 12 * x6 + x7 → ∃ r, E_V 223 59 [192, p, h, x3, x4, x5, x6, x7] M = some (r, M) ∧ -2147483648 ≤ r ∧ r ≤ 2147483647 := by
    intro x4 x5 x7 q q4 q7 q5
    obtain ⟨r, k, hr⟩ := H x4 x5 x7 q4 (by omega)
    refine ⟨r, ?_, hr⟩
    rw [E_V_eq]
    show e_tv E_C (E_V 223) e_t223_59 [192, p, h, x3, x4, x5, x6, x7] M = _
    unfold e_t223_59
    simp [e_tv, e_ev, e_sv, e_b1, e_b2, x_o1, x_o2, q, r_O0, w1, w2, l1, k]
  intro m
  induction m with
  | zero => intro x4 x5 x7 hm h0 h1 h2 h3 h4; exact hend x4 x5 x7 (by omega) (by omega) h1 h3
  | succ m ih =>
    intro x4 x5 x7 hm h0 h1 h2 h3 h4
    rcases x_le x7 hi with ⟨q, q_n⟩ | ⟨q, q_n⟩
    · have w3 : e_w (x4 + 1) = x4 + 1 := a_w_id (by omega) (by omega)
      have w4 : e_w (x7 + 1) = x7 + 1 := a_w_id (by omega) (by omega)
      obtain ⟨s, ks, hs⟩ := r_isShaded (x := x6) (y := x7) hM hh
      obtain ⟨r, k, hr⟩ := ih (x4 + 1) (e_w (x5 + (if s = 0 then 1 else 0))) (x7 + 1) (by omega) (by omega) (by omega) (by omega) (by omega) (by omega)
      refine ⟨r, ?_, hr⟩
      rw [E_V_eq]
      show e_tv E_C (E_V 223) e_t223_59 [192, p, h, x3, x4, x5, x6, x7] M = _
      unfold e_t223_59
      rcases hs with hs | hs <;> subst hs
      · simp at k
        simp [e_tv, e_ev, e_sv, e_b1, e_b2, x_o1, x_o2, q, q_n, r_O0, w1, w3, w4, l1, ks, k]
      · simp at k
        simp [e_tv, e_ev, e_sv, e_b1, e_b2, x_o1, x_o2, q, q_n, r_O0, w1, w3, w4, l1, ks, k]
    · exact hend x4 x5 x7 q (by omega) h1 h3
theorem r_lit_out {p h x3 xhi ylo hi : Int} {M : EM} (hM : a_M M) (hh : 0 ≤ h ∧ h ≤ 11) (hx3 : 0 ≤ x3 ∧ x3 ≤ 1112) (i3 : r_G M (x3 + 3) = xhi) (i2 : r_G M (x3 + 2) = ylo) (i4 : r_G M (x3 + 4) = hi) (h3 : xhi ≤ 19) (h2 : 0 ≤ ylo ∧ ylo ≤ hi ∧ hi ≤ 11) : ∀ (m : Nat) (x4 x5 x6 x7 : Int), (xhi + 1 - x6).toNat ≤ m → 0 ≤ x6 → x6 ≤ 20 → 0 ≤ x4 → x4 ≤ 12 * x6 → (0 < x4 ∨ x6 ≤ xhi) → ∃ r, E_V 223 36 [192, p, h, x3, x4, x5, x6, x7] M = some (r, M) ∧ -2147483648 ≤ r ∧ r ≤ 2147483647 := by
  have w1 : e_w (x3 + 3) = x3 + 3 := a_w_id (by omega) (by omega)
  have w2 : e_w (x3 + 2) = x3 + 2 := a_w_id (by omega) (by omega)
  have l1 : e_op 60 [193, x3 + 3] M = some xhi := (r_rd (by omega) (by omega)).trans (congrArg some i3)
  have l2 : e_op 60 [193, x3 + 2] M = some ylo := (r_rd (by omega) (by omega)).trans (congrArg some i2)
  have hend : ∀ x4 x5 x6 x7, ¬ (x6 ≤ xhi) → 0 < x4 → ∃ r, E_V 223 36 [192, p, h, x3, x4, x5, x6, x7] M = some (r, M) ∧ -2147483648 ≤ r ∧ r ≤ 2147483647 := by
    intro x4 x5 x6 x7 q q4
    have q4' : x4 ≠ 0 := by omega
    refine ⟨e_w ((e_w (100 * x5)).tdiv x4), ?_, a_w _⟩
    rw [E_V_eq]
    show e_tv E_C (E_V 223) e_t223_36 [192, p, h, x3, x4, x5, x6, x7] M = _
    unfold e_t223_36
    simp [e_tv, e_ev, e_sv, e_b1, e_b2, x_o1, x_o2, q, q4', r_O0, w1, l1]
  intro m
  induction m with
  | zero => intro x4 x5 x6 x7 hm h0 h1 h4 h5 h6; exact hend x4 x5 x6 x7 (by omega) (by omega)
  | succ m ih =>
    intro x4 x5 x6 x7 hm h0 h1 h4 h5 h6
    rcases x_le x6 xhi with ⟨q, q_n⟩ | ⟨q, q_n⟩
    · obtain ⟨r, k, hr⟩ := r_lit_in (p := p) hM hh ⟨h0, by omega⟩ hx3 i4 ⟨by omega, by omega⟩ (fun x4 x5 x7 q4 q5 => ih x4 x5 (x6 + 1) x7 (by omega) (by omega) (by omega) (by omega) (by omega) (by omega)) _ x4 x5 ylo (Nat.le_refl _) (by omega) (by omega) h4 (by omega) (Or.inr h2.2.1)
      refine ⟨r, ?_, hr⟩
      rw [E_V_eq]
      show e_tv E_C (E_V 223) e_t223_36 [192, p, h, x3, x4, x5, x6, x7] M = _
      unfold e_t223_36
      simp [e_tv, e_ev, e_sv, e_b1, e_b2, x_o1, x_o2, q, q_n, r_O0, w1, w2, l1, l2, k]
    · exact hend x4 x5 x6 x7 q (by omega)
theorem r_litOf {p h : Int} {M : EM} (hM : a_M M) (hh : 0 ≤ h ∧ h ≤ 11) (hp : 0 ≤ p ∧ p < 40) (hl : r_lies (r_G M) p) : ∃ r, E_C 223 [192, p, h] M = some (r, M) ∧ -2147483648 ≤ r ∧ r ≤ 2147483647 := by
  have w1 : e_w (28 * p) = 28 * p := a_w_id (by omega) (by omega)
  have w2 : e_w (28 * p + 20) = 28 * p + 20 := a_w_id (by omega) (by omega)
  have w3 : e_w (28 * p + 20 + 1) = 28 * p + 20 + 1 := a_w_id (by omega) (by omega)
  have l0 : e_op 60 [193, 28 * p + 20] M = some (r_G M (28 * p + 20)) := r_rd (by omega) (by omega)
  have l1 : e_op 60 [193, 28 * p + 20 + 1] M = some (r_G M (28 * p + 20 + 1)) := r_rd (by omega) (by omega)
  by_cases q : r_G M (28 * p + 20) = 0
  · refine ⟨100, ?_, by decide, by decide⟩
    rw [r_ent (show e_rok 223 [192, p, h] = true from decide_eq_true r_ref)]
    show e_tv E_C (E_V 223) e_t223_0 [192, p, h, 0, 0, 0, 0, 0] M = _
    unfold e_t223_0
    simp [e_tv, e_ev, e_sv, e_b1, e_b2, x_o1, x_o2, r_O0, w1, w2, l0, q]
  · obtain ⟨a1, a2, a3, a4, a5, a6⟩ := hl.resolve_left q
    have e1 : 28 * p + 20 + 1 = 28 * p + 21 := by omega
    have e2 : 28 * p + 20 + 2 = 28 * p + 22 := by omega
    have e3 : 28 * p + 20 + 3 = 28 * p + 23 := by omega
    have e4 : 28 * p + 20 + 4 = 28 * p + 24 := by omega
    obtain ⟨r, k, hr⟩ := r_lit_out (p := p) (x3 := 28 * p + 20) hM hh ⟨by omega, by omega⟩ rfl rfl rfl (by rw [e3]; exact a3) (by rw [e2, e4]; exact ⟨a4, a5, a6⟩) _ 0 0 (r_G M (28 * p + 20 + 1)) 0 (Nat.le_refl _) (by rw [e1]; omega) (by rw [e1]; omega) (by decide) (by rw [e1]; omega) (Or.inr (by rw [e1, e3]; exact a2))
    refine ⟨r, ?_, hr⟩
    rw [r_ent (show e_rok 223 [192, p, h] = true from decide_eq_true r_ref)]
    show e_tv E_C (E_V 223) e_t223_0 [192, p, h, 0, 0, 0, 0, 0] M = _
    unfold e_t223_0
    simp [e_tv, e_ev, e_sv, e_b1, e_b2, x_o1, x_o2, r_O0, w1, w2, w3, l0, l1, q, k]
