section YM
variable {b : Nat → Int} {n k : Nat} {M : EM}
/-- STATEMENTS one by one, to the end -/
theorem y_36 {d x3 x4 : Int} : ∀ (m k : Nat) (M : EM), n - k ≤ m → y_B b n k M → w_A b k → w_T b k 2 = 0 → (k = n → ¬ 0 < w_T b n 7) → ∃ M', r_tt M M' ∧ ((∃ k', w_F b n k' ∧ E_V 190 36 [192, d, 0, x3, x4] M = some (-1000 - (k' : Int), M')) ∨ (w_A b n ∧ w_T b n 2 = 0 ∧ 0 < w_T b n 7 ∧ y_B b n n M' ∧ E_V 190 36 [192, d, 0, x3, x4] M = E_V 190 65 [192, d, 0, 0, x4] M')) := by
  intro m
  induction m with
  | zero =>
    intro k M hm hB hA h2 h0
    obtain ⟨r, M1, k1, g1, t1, B1, c1, c2, c3⟩ := y_stmt hB hA h2 h0
    rcases c3 with ⟨e, c3, -⟩ | ⟨e, c3⟩
    · have := B1.2.2.1
      omega
    · subst e
      refine ⟨M1, t1, Or.inl ⟨k1, c3, ?_⟩⟩
      have h15 := B1.2.1
      have w1 : e_w (-1000 - (k1 : Int)) = -1000 - (k1 : Int) := by
        have := B1.2.2.1
        have := B1.2.2.2.2.1
        exact a_w_id (by omega) (by omega)
      rw [E_V_eq]
      show e_tv E_C (E_V 190) e_t190_36 [192, d, 0, x3, x4] M = _
      unfold e_t190_36
      simp [e_tv, e_ev, e_sv, e_b1, e_b2, x_o1, x_o2, r_F15, g1, h15, w1]
  | succ m ih =>
    intro k M hm hB hA h2 h0
    obtain ⟨r, M1, k1, g1, t1, B1, c1, c2, c3⟩ := y_stmt hB hA h2 h0
    have h15 := B1.2.1
    have h17 := B1.2.2.2.1
    have hk1 := B1.2.2.1
    rcases c3 with ⟨e, c3, c4, c5⟩ | ⟨e, c3⟩
    · subst e
      have p7 : 0 < w_T b k1 7 := by
        have := w_Ii hA
        unfold w_I at this
        omega
      by_cases q : k1 = n
      · subst q
        refine ⟨M1, t1, Or.inr ⟨c2, c4, p7, B1, ?_⟩⟩
        rw [E_V_eq]
        show e_tv E_C (E_V 190) e_t190_36 [192, d, 0, x3, x4] M = _
        unfold e_t190_36
        simp [e_tv, e_ev, e_sv, e_b1, e_b2, x_o1, x_o2, r_F15, r_F17, g1, h15, h17]
      · obtain ⟨M', t2, h⟩ := ih k1 M1 (by omega) B1 c2 c4 (fun e => absurd e q)
        have q1 : ¬ (n ≤ k1) := by omega
        have e1 : E_V 190 36 [192, d, 0, x3, x4] M = E_V 190 36 [192, d, 0, x3, x4] M1 := by
          rw [E_V_eq]
          show e_tv E_C (E_V 190) e_t190_36 [192, d, 0, x3, x4] M = _
          unfold e_t190_36
          simp [e_tv, e_ev, e_sv, e_b1, e_b2, x_o1, x_o2, r_F15, r_F17, g1, h15, h17, q1]
        refine ⟨M', r_tt_tr t1 t2, ?_⟩
        rw [e1]
        exact h
    · subst e
      refine ⟨M1, t1, Or.inl ⟨k1, c3, ?_⟩⟩
      have w1 : e_w (-1000 - (k1 : Int)) = -1000 - (k1 : Int) := by
        have := B1.2.2.2.2.1
        exact a_w_id (by omega) (by omega)
      rw [E_V_eq]
      show e_tv E_C (E_V 190) e_t190_36 [192, d, 0, x3, x4] M = _
      unfold e_t190_36
      simp [e_tv, e_ev, e_sv, e_b1, e_b2, x_o1, x_o2, r_F15, g1, h15, w1]
end YM
