/-! what the reference reads of CELLS and ROWS: nothing is written, each comes to an end -/
theorem x_lt (a b : Int) : (a < b ∧ ¬ b ≤ a) ∨ (¬ a < b ∧ b ≤ a) := by omega
theorem x_le (a b : Int) : (a ≤ b ∧ ¬ b < a) ∨ (¬ a ≤ b ∧ b < a) := by omega
theorem r_gr {M : EM} (hM : a_M M) (i : Int) : -2147483648 ≤ r_G M i ∧ r_G M i ≤ 2147483647 := c_M32 hM (by decide) (by decide +kernel)
theorem r_td {z c : Int} (hz : -2147483648 ≤ z ∧ z ≤ 2147483647) (hc : 2 ≤ c) : -1073741824 ≤ e_w (z.tdiv c) ∧ e_w (z.tdiv c) ≤ 1073741824 := by
  have hq : (z.tdiv c).natAbs ≤ 1073741824 := by
    rw [Int.natAbs_tdiv]
    refine (show z.natAbs / c.natAbs ≤ 1073741824 from ?_)
    have h1 : 2 ≤ c.natAbs := by omega
    have h2 : z.natAbs ≤ 2147483648 := by omega
    have h3 : z.natAbs / c.natAbs ≤ z.natAbs / 2 := Nat.div_le_div_left h1 (by decide)
    omega
  revert hq
  generalize z.tdiv c = y
  intro hq
  rw [a_w_id (by omega) (by omega)]
  omega
/-- the reference's state in which things are asked: an HOUR or none -/
def r_E (M : EM) : Prop := a_M M ∧ r_W (r_G M) ∧ -1 ≤ M 192 20 ∧ M 192 20 ≤ 11
theorem r_shade_in {x y h x4 x5 x6 x7 x8 x9 : Int} {M : EM} (h7 : 0 ≤ x7 ∧ x7 < 10) (h9 : x9 ≤ 1073741824) (H : ∀ x10, ∃ r, E_V 222 78 [192, x, y, h, x4, x5, x6, x7 + 1, x8, x9, x10] M = some (r, M) ∧ (r = 0 ∨ r = 1)) : ∀ (m : Nat) (x10 : Int), (x9 + 1 - x10).toNat ≤ m → 0 ≤ x10 → x10 ≤ 1073741825 → ∃ r, E_V 222 127 [192, x, y, h, x4, x5, x6, x7, x8, x9, x10] M = some (r, M) ∧ (r = 0 ∨ r = 1) := by
  have w1 : e_w (3 * x7) = 3 * x7 := a_w_id (by omega) (by omega)
  have w2 : e_w (1120 + 3 * x7) = 1120 + 3 * x7 := a_w_id (by omega) (by omega)
  have w3 : e_w (1120 + 3 * x7 + 1) = 1120 + 3 * x7 + 1 := a_w_id (by omega) (by omega)
  have w4 : e_w (x7 + 1) = x7 + 1 := a_w_id (by omega) (by omega)
  have l1 : e_op 60 [193, 1120 + 3 * x7] M = some (r_G M (1120 + 3 * x7)) := r_rd (by omega) (by omega)
  have l2 : e_op 60 [193, 1120 + 3 * x7 + 1] M = some (r_G M (1120 + 3 * x7 + 1)) := r_rd (by omega) (by omega)
  have hend : ∀ x10, ¬ (x10 ≤ x9 ∧ 0 < x8) → ∃ r, E_V 222 127 [192, x, y, h, x4, x5, x6, x7, x8, x9, x10] M = some (r, M) ∧ (r = 0 ∨ r = 1) := by
    intro x10 q
    obtain ⟨r, k, hr⟩ := H x10
    refine ⟨r, ?_, hr⟩
    rcases x_le x10 x9 with ⟨q0, q0_n⟩ | ⟨q0, q0_n⟩
    · have q1 : ¬ (0 < x8) := fun e => q ⟨q0, e⟩
      rw [E_V_eq]
      show e_tv E_C (E_V 222) e_t222_127 [192, x, y, h, x4, x5, x6, x7, x8, x9, x10] M = _
      unfold e_t222_127
      simp [e_tv, e_ev, e_sv, e_b1, e_b2, x_o1, x_o2, q0, q0_n, q1, w4, k]
    · rw [E_V_eq]
      show e_tv E_C (E_V 222) e_t222_127 [192, x, y, h, x4, x5, x6, x7, x8, x9, x10] M = _
      unfold e_t222_127
      simp [e_tv, e_ev, e_sv, e_b1, e_b2, x_o1, x_o2, q0, q0_n, w4, k]
  intro m
  induction m with
  | zero => intro x10 hm h0 h1; exact hend x10 (by omega)
  | succ m ih =>
    intro x10 hm h0 h1
    by_cases q : x10 ≤ x9 ∧ 0 < x8
    · obtain ⟨q0, q1⟩ := q
      have w5 : e_w (x10 + 1) = x10 + 1 := a_w_id (by omega) (by omega)
      obtain ⟨r, k, hr⟩ := ih (x10 + 1) (by omega) (by omega) (by omega)
      by_cases c1 : e_w (r_G M (1120 + 3 * x7) + e_w (x10 * x5)) = x
      · by_cases c2 : e_w (r_G M (1120 + 3 * x7 + 1) + e_w (x10 * x6)) = y
        · refine ⟨1, ?_, Or.inr rfl⟩
          rw [E_V_eq]
          show e_tv E_C (E_V 222) e_t222_127 [192, x, y, h, x4, x5, x6, x7, x8, x9, x10] M = _
          unfold e_t222_127
          simp [e_tv, e_ev, e_sv, e_b1, e_b2, x_o1, x_o2, q0, q1, r_O0, w1, w2, w3, l1, l2, c1, c2]
        · refine ⟨r, ?_, hr⟩
          rw [E_V_eq]
          show e_tv E_C (E_V 222) e_t222_127 [192, x, y, h, x4, x5, x6, x7, x8, x9, x10] M = _
          unfold e_t222_127
          simp [e_tv, e_ev, e_sv, e_b1, e_b2, x_o1, x_o2, q0, q1, r_O0, w1, w2, w3, w5, l1, l2, c1, c2, k]
      · refine ⟨r, ?_, hr⟩
        rw [E_V_eq]
        show e_tv E_C (E_V 222) e_t222_127 [192, x, y, h, x4, x5, x6, x7, x8, x9, x10] M = _
        unfold e_t222_127
        simp [e_tv, e_ev, e_sv, e_b1, e_b2, x_o1, x_o2, q0, q1, r_O0, w1, w2, w3, w5, l1, l2, c1, k]
    · exact hend x10 q
theorem r_shade_out {x y h x4 x5 x6 : Int} {M : EM} (hM : a_M M) (hh : 0 ≤ h ∧ h ≤ 11) : ∀ (m : Nat) (x7 x8 x9 x10 : Int), (10 - x7).toNat ≤ m → 0 ≤ x7 → x7 ≤ 10 → ∃ r, E_V 222 78 [192, x, y, h, x4, x5, x6, x7, x8, x9, x10] M = some (r, M) ∧ (r = 0 ∨ r = 1) := by
  have hend : ∀ x7 x8 x9 x10, ¬ (x7 < 10) → ∃ r, E_V 222 78 [192, x, y, h, x4, x5, x6, x7, x8, x9, x10] M = some (r, M) ∧ (r = 0 ∨ r = 1) := by
    intro x7 x8 x9 x10 q
    refine ⟨0, ?_, Or.inl rfl⟩
    rw [E_V_eq]
    show e_tv E_C (E_V 222) e_t222_78 [192, x, y, h, x4, x5, x6, x7, x8, x9, x10] M = _
    unfold e_t222_78
    simp [e_tv, e_ev, e_sv, e_b1, e_b2, x_o1, x_o2, q]
  intro m
  induction m with
  | zero => intro x7 x8 x9 x10 hm h0 h1; exact hend x7 x8 x9 x10 (by omega)
  | succ m ih =>
    intro x7 x8 x9 x10 hm h0 h1
    rcases x_lt x7 10 with ⟨q, q_n⟩ | ⟨q, q_n⟩
    · have w1 : e_w (3 * x7) = 3 * x7 := a_w_id (by omega) (by omega)
      have w2 : e_w (1120 + 3 * x7) = 1120 + 3 * x7 := a_w_id (by omega) (by omega)
      have w3 : e_w (1120 + 3 * x7 + 2) = 1120 + 3 * x7 + 2 := a_w_id (by omega) (by omega)
      have w4 : e_w (2 * h) = 2 * h := a_w_id (by omega) (by omega)
      have w5 : e_w (1150 + 2 * h) = 1150 + 2 * h := a_w_id (by omega) (by omega)
      have w6 : e_w (1150 + 2 * h + 1) = 1150 + 2 * h + 1 := a_w_id (by omega) (by omega)
      have l1 : e_op 60 [193, 1120 + 3 * x7 + 2] M = some (r_G M (1120 + 3 * x7 + 2)) := r_rd (by omega) (by omega)
      have l2 : e_op 60 [193, 1150 + 2 * h + 1] M = some (r_G M (1150 + 2 * h + 1)) := r_rd (by omega) (by omega)
      obtain ⟨r, k, hr⟩ := r_shade_in (x := x) (y := y) (h := h) (x4 := x4) (x5 := x5) (x6 := x6) (x8 := r_G M (1120 + 3 * x7 + 2)) ⟨h0, q⟩ (r_td (c := 10) (a_w (r_G M (1120 + 3 * x7 + 2) * r_G M (1150 + 2 * h + 1))) (by decide)).2 (fun x10 => ih (x7 + 1) _ _ x10 (by omega) (by omega) (by omega)) _ 0 (Nat.le_refl _) (by decide) (by decide)
      refine ⟨r, ?_, hr⟩
      rw [E_V_eq]
      show e_tv E_C (E_V 222) e_t222_78 [192, x, y, h, x4, x5, x6, x7, x8, x9, x10] M = _
      unfold e_t222_78
      simp [e_tv, e_ev, e_sv, e_b1, e_b2, x_o1, x_o2, q, q_n, r_O0, w1, w2, w3, w4, w5, w6, l1, l2, k]
    · exact hend x7 x8 x9 x10 q
