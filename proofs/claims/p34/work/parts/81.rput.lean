theorem r_put {d i v : Int} {M : EM} (hM : a_M M) (hI : r_I M) (hv : -2147483648 ≤ v ∧ v ≤ 2147483647) : ∃ r M', E_C 260 [192, d, i, v] M = some (r, M') ∧ a_M M' ∧ a_fr [(198, 0, 959)] M M' := by
  have h1 : E_C 260 [192, d, i, v] M = e_tv E_C (E_V 260) e_t260_0 [192, d, i, v, 0] M := by
    unfold E_C
    rw [if_pos (show e_rok 260 [192, d, i, v] = true from decide_eq_true r_ref), E_V_eq]
    rfl
  have g3 : ∀ M, e_gf 771 [192] M = some 196 := fun M => r_g 771 196 M (by decide +kernel)
  have g4 : ∀ M, e_gf 772 [192] M = some 197 := fun M => r_g 772 197 M (by decide +kernel)
  have g5 : ∀ M, e_gf 773 [192] M = some 198 := fun M => r_g 773 198 M (by decide +kernel)
  have b1 : ∀ a, e_b1 1 a = some a := fun _ => rfl
  have b22 : ∀ a, e_b1 22 a = some a := fun _ => rfl
  have b46 : ∀ a, e_b1 46 a = some (if a = 0 then 1 else 0) := fun _ => rfl
  have b47 : ∀ a, e_b1 47 a = some (if a ≠ 0 then 1 else 0) := fun _ => rfl
  obtain ⟨x1, b24, y1⟩ : ∃ x, e_b1 24 v = some x ∧ (-2147483648 ≤ x ∧ x ≤ 2147483647) := ⟨_, rfl, by omega, by omega⟩
  obtain ⟨x2, b25, y2⟩ : ∃ x, e_b1 25 v = some x ∧ (-2147483648 ≤ x ∧ x ≤ 2147483647) := ⟨_, rfl, by omega, by omega⟩
  rw [h1]
  unfold e_t260_0
  obtain ⟨r, r1, -, r3⟩ := r_wrongRow d (-1) M
  by_cases q0 : r = 0
  · have hd := r3 q0
    obtain ⟨-, l2, l3, -, -, -⟩ := r_isD d M hd
    have hz := hI d.toNat (by omega)
    have w0 : e_w (M 197 d.toNat - 1) = M 197 d.toNat - 1 := a_w_id (by omega) (by omega)
    by_cases q1 : 0 ≤ i ∧ i ≤ M 197 d.toNat - 1
    · have w1 : e_w (120 * d) = 120 * d := a_w_id (by omega) (by omega)
      have w2 : e_w (120 * d + i) = 120 * d + i := a_w_id (by omega) (by omega)
      have st : ∀ v M, e_st 100 [198, 120 * d + i, v] M = some (e_up M 198 (120 * d + i).toNat v) := fun v M => r_st (n := 960) (by decide) (by decide +kernel) (by decide +kernel) (by omega) (by omega)
      have hup : ∀ {x : Int}, (-2147483648 ≤ x ∧ x ≤ 2147483647) → a_M (e_up M 198 (120 * d + i).toNat x) ∧ a_fr [(198, 0, 959)] M (e_up M 198 (120 * d + i).toNat x) := by
        intro x hx
        refine ⟨r_up (by decide) (by decide +kernel) (by decide +kernel) hx hM, fun b j hw => c_up_n (fun hc => hw _ List.mem_cons_self ⟨hc.1.symm, Nat.zero_le _, ?_⟩)⟩
        have := hc.2
        show j ≤ 959
        omega
      by_cases q2 : M 196 d.toNat = 0
      · have hb := hup (x := x1) y1
        exact ⟨0, e_up M 198 (120 * d + i).toNat x1, by simp [e_tv, e_ev, e_sv, b1, b22, b46, b47, b24, b25, e_b2, x_o1, x_o2, r_isIn, r1, q0, g3, g4, g5, l2, l3, w0, w1, w2, q1, q2, st], hb.1, hb.2⟩
      · by_cases q3 : M 196 d.toNat = 1
        · have hb := hup (x := x2) y2
          exact ⟨0, e_up M 198 (120 * d + i).toNat x2, by simp [e_tv, e_ev, e_sv, b1, b22, b46, b47, b24, b25, e_b2, x_o1, x_o2, r_isIn, r1, q0, g3, g4, g5, l2, l3, w0, w1, w2, q1, q3, st], hb.1, hb.2⟩
        · have hb := hup (x := v) hv
          exact ⟨0, e_up M 198 (120 * d + i).toNat v, by simp [e_tv, e_ev, e_sv, b1, b22, b46, b47, b24, b25, e_b2, x_o1, x_o2, r_isIn, r1, q0, g3, g4, g5, l2, l3, w0, w1, w2, q1, q2, q3, st], hb.1, hb.2⟩
    · exact ⟨-13, M, by simp [e_tv, e_ev, e_sv, b1, b22, b46, b47, b24, b25, e_b2, x_o1, x_o2, r_isIn, r1, q0, g3, g4, g5, l2, l3, w0, q1], hM, a_fr_rf⟩
  · exact ⟨r, M, by simp [e_tv, e_ev, e_sv, b1, b22, b46, b47, b24, b25, e_b2, x_o1, x_o2, r1, q0], hM, a_fr_rf⟩
