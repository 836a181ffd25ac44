section YM
variable {b : Nat → Int} {n k : Nat} {M : EM}
theorem y_stmt (hB : y_B b n k M) (hA : w_A b k) (h2 : w_T b k 2 = 0) (h0 : k = n → ¬ 0 < w_T b n 7) : ∃ r M' k', E_C 183 [192] M = some (r, M') ∧ r_tt M M' ∧ y_B b n k' M' ∧ k ≤ k' ∧ w_A b k' ∧ ((r = 1 ∧ k < k' ∧ y_Ps b n k k') ∨ (r = 0 ∧ w_F b n k')) := by
  have ks := r_sign (y_ty hB)
  rw [y_sg hB] at ks
  have hkn := hB.2.2.1
  have h15 := hB.2.1
  have hn120 := hB.2.2.2.2.1
  by_cases q : k < n ∧ (b k = 99 ∨ b k = 114 ∨ b k = 102 ∨ b k = 98)
  · obtain ⟨q0, q1⟩ := q
    rw [y_sb q0] at ks
    obtain ⟨o1, o2⟩ := y_on hB q0
    obtain ⟨a1, a2, a3, a4, a5, a6, a7, a8⟩ := y_bgn hA h2 q1
    have w1 : e_w ((k : Int) + 1) = (k : Int) + 1 := by
      clear ks o1 o2
      exact a_w_id (by omega) (by omega)
    by_cases c1 : b k = 99
    · rw [c1] at ks a3
      obtain ⟨r, M2, k2, g2, tt2, B2, c1', c2, c3⟩ := y_point o2 a1 a2 a3 a4 a5
      rcases c3 with ⟨e, p1, p2, p3, p4, p5⟩ | ⟨e, c3⟩
      · subst e
        obtain ⟨r, M3, k3, g3, tt3, B3, d1, d2, d3⟩ := y_56 (x1 := 99) _ k2 M2 (Nat.le_refl _) B2 c2 p1 p2 p3 p4
        refine ⟨r, M3, k3, ?_, r_tt_tr o1 (r_tt_tr tt2 tt3), B3, by clear ks w1; omega, d2, ?_⟩
        · rw [r_ent (show e_rok 183 [192] = true from decide_eq_true r_ref)]
          show e_tv E_C (E_V 183) e_t183_0 [192, 0] M = _
          unfold e_t183_0
          simp [e_tv, e_ev, e_sv, e_b1, e_b2, x_o1, x_o2, r_F15, r_P15, ks, h15, w1, g2, g3]
        · rcases d3 with ⟨e, d3, d4⟩ | ⟨e, d3⟩
          · exact Or.inl ⟨e, by clear ks w1; omega, d3, by clear ks w1; omega⟩
          · exact Or.inr ⟨e, y_F d3⟩
      · subst e
        refine ⟨0, M2, k2, ?_, r_tt_tr o1 tt2, B2, by clear ks w1; omega, c2, Or.inr ⟨rfl, y_F c3⟩⟩
        rw [r_ent (show e_rok 183 [192] = true from decide_eq_true r_ref)]
        show e_tv E_C (E_V 183) e_t183_0 [192, 0] M = _
        unfold e_t183_0
        simp [e_tv, e_ev, e_sv, e_b1, e_b2, x_o1, x_o2, r_F15, r_P15, ks, h15, w1, g2]
    by_cases c2 : b k = 114
    · rw [c2] at ks a3
      obtain ⟨r, M2, k2, g2, tt2, B2, c1', c2, c3⟩ := y_item o2 a1 a2 a3 a5
      rcases c3 with ⟨e, p1, p2, p3, p4⟩ | ⟨e, c3⟩
      · subst e
        obtain ⟨r, M3, k3, g3, tt3, B3, d1, d2, d3⟩ := y_89 (x1 := 114) _ k2 M2 (Nat.le_refl _) B2 c2 p1 p2 p3
        refine ⟨r, M3, k3, ?_, r_tt_tr o1 (r_tt_tr tt2 tt3), B3, by clear ks w1; omega, d2, ?_⟩
        · rw [r_ent (show e_rok 183 [192] = true from decide_eq_true r_ref)]
          show e_tv E_C (E_V 183) e_t183_0 [192, 0] M = _
          unfold e_t183_0
          simp [e_tv, e_ev, e_sv, e_b1, e_b2, x_o1, x_o2, r_F15, r_P15, ks, h15, w1, g2, g3]
        · rcases d3 with ⟨e, d3, d4⟩ | ⟨e, d3⟩
          · exact Or.inl ⟨e, by clear ks w1; omega, d3, by clear ks w1; omega⟩
          · exact Or.inr ⟨e, y_F d3⟩
      · subst e
        refine ⟨0, M2, k2, ?_, r_tt_tr o1 tt2, B2, by clear ks w1; omega, c2, Or.inr ⟨rfl, y_F c3⟩⟩
        rw [r_ent (show e_rok 183 [192] = true from decide_eq_true r_ref)]
        show e_tv E_C (E_V 183) e_t183_0 [192, 0] M = _
        unfold e_t183_0
        simp [e_tv, e_ev, e_sv, e_b1, e_b2, x_o1, x_o2, r_F15, r_P15, ks, h15, w1, g2]
    have s130 : ∀ x M, E_V 183 130 [192, x] M = some (0, M) := by
      intro x M
      rw [E_V_eq]
      show e_tv E_C (E_V 183) e_t183_130 [192, x] M = _
      unfold e_t183_130
      simp [e_tv, e_ev, e_sv, e_b1, e_b2, x_o1, x_o2]
    by_cases c3 : b k = 102
    · rw [c3] at ks a3
      obtain ⟨r, M2, k2, g2, tt2, B2, c1', c2, c3⟩ := y_nums o2 a1 a2 (Or.inl a3)
      rcases c3 with ⟨e, p1, p2, p3, p4, p5⟩ | ⟨e, c3⟩
      · subst e
        obtain ⟨r, M3, k3, g3, tt3, B3, d1, d2, d3⟩ := y_132 (x1 := 102) B2 c2 p1 (p4.trans a5) (fun e => by rw [p3, a3] at e; exact absurd e.1 (by decide)) (Or.inr p2)
        refine ⟨r, M3, k3, ?_, r_tt_tr o1 (r_tt_tr tt2 tt3), B3, by clear ks w1; omega, d2, ?_⟩
        · rw [r_ent (show e_rok 183 [192] = true from decide_eq_true r_ref)]
          show e_tv E_C (E_V 183) e_t183_0 [192, 0] M = _
          unfold e_t183_0
          simp [e_tv, e_ev, e_sv, e_b1, e_b2, x_o1, x_o2, r_F15, r_P15, ks, h15, w1, g2, g3]
        · rcases d3 with ⟨e, d3, d4⟩ | ⟨e, d3⟩
          · exact Or.inl ⟨e, by clear ks w1; omega, d3, by clear ks w1; omega⟩
          · exact Or.inr ⟨e, y_F d3⟩
      · subst e
        refine ⟨0, M2, k2, ?_, r_tt_tr o1 tt2, B2, by clear ks w1; omega, c2, Or.inr ⟨rfl, y_F c3⟩⟩
        rw [r_ent (show e_rok 183 [192] = true from decide_eq_true r_ref)]
        show e_tv E_C (E_V 183) e_t183_0 [192, 0] M = _
        unfold e_t183_0
        simp [e_tv, e_ev, e_sv, e_b1, e_b2, x_o1, x_o2, r_F15, r_P15, ks, h15, w1, g2, s130]
    · have c4 : b k = 98 := by
        clear ks w1
        omega
      rw [c4] at ks a3
      obtain ⟨n1, n2⟩ := y_num o2 a1 a2
      by_cases d : k + 1 < n ∧ 48 ≤ b (k + 1) ∧ b (k + 1) ≤ 57
      · obtain ⟨k2, M2, g2, tt2, B2, ⟨z1, z2, z3, z4, z5, z6, z7, z8, z9, z10, z11⟩, -⟩ := n2 d
        obtain ⟨r, M3, k3, g3, tt3, B3, d1, d2, d3⟩ := y_132 (x1 := 98) B2 z4 z5 (z8.trans a5) (fun e => by rw [z6, a3] at e; exact absurd e.1 (by decide)) (Or.inl (z6.trans a3))
        refine ⟨r, M3, k3, ?_, r_tt_tr o1 (r_tt_tr tt2 tt3), B3, by clear ks w1; omega, d2, ?_⟩
        · rw [r_ent (show e_rok 183 [192] = true from decide_eq_true r_ref)]
          show e_tv E_C (E_V 183) e_t183_0 [192, 0] M = _
          unfold e_t183_0
          simp [e_tv, e_ev, e_sv, e_b1, e_b2, x_o1, x_o2, r_F15, r_P15, ks, h15, w1, g2, g3]
        · rcases d3 with ⟨e, d3, d4⟩ | ⟨e, d3⟩
          · exact Or.inl ⟨e, by clear ks w1; omega, d3, by clear ks w1; omega⟩
          · exact Or.inr ⟨e, y_F d3⟩
      · have g2 := n1 d
        refine ⟨0, _, k + 1, ?_, o1, o2, by clear ks w1; omega, a1, Or.inr ⟨rfl, y_F (y_bad1 a1 o2.2.2.1 a2 d (fun _ e => by rw [a3] at e; exact absurd e.2.1 (by decide)))⟩⟩
        rw [r_ent (show e_rok 183 [192] = true from decide_eq_true r_ref)]
        show e_tv E_C (E_V 183) e_t183_0 [192, 0] M = _
        unfold e_t183_0
        simp [e_tv, e_ev, e_sv, e_b1, e_b2, x_o1, x_o2, r_F15, r_P15, ks, h15, w1, g2, s130]
  · refine ⟨0, M, k, ?_, r_tt_rf hB.1, hB, Nat.le_refl _, hA, Or.inr ⟨rfl, hA, hkn, fun hl ok => ?_, fun e z => h0 e z.2⟩⟩
    · have c1 : y_s b n k ≠ 99 := fun e => q ⟨(y_lt e (by decide)).1, Or.inl (y_lt e (by decide)).2⟩
      have c2 : y_s b n k ≠ 114 := fun e => q ⟨(y_lt e (by decide)).1, Or.inr (Or.inl (y_lt e (by decide)).2)⟩
      have c3 : y_s b n k ≠ 102 := fun e => q ⟨(y_lt e (by decide)).1, Or.inr (Or.inr (Or.inl (y_lt e (by decide)).2))⟩
      have c4 : y_s b n k ≠ 98 := fun e => q ⟨(y_lt e (by decide)).1, Or.inr (Or.inr (Or.inr (y_lt e (by decide)).2))⟩
      rw [r_ent (show e_rok 183 [192] = true from decide_eq_true r_ref)]
      show e_tv E_C (E_V 183) e_t183_0 [192, 0] M = _
      unfold e_t183_0
      simp [e_tv, e_ev, e_sv, e_b1, e_b2, x_o1, x_o2, ks, c1, c2, c3, c4]
    · unfold w_ok at ok
      rw [if_pos h2] at ok
      exact q ⟨hl, ok⟩
end YM
