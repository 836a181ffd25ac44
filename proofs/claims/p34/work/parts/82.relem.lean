theorem r_element {d i : Int} {M : EM} (hM : a_M M) (hI : r_I M) : ∃ r M', E_C 261 [192, d, i] M = some (r, M') ∧ (-2147483648 ≤ r ∧ r ≤ 2147483647) ∧ a_M M' ∧ a_fr [(192, 10, 10)] M M' := by
  have h1 : E_C 261 [192, d, i] M = e_tv E_C (E_V 261) e_t261_0 [192, d, i] M := by
    unfold E_C
    rw [if_pos (show e_rok 261 [192, d, i] = true from decide_eq_true r_ref), E_V_eq]
    rfl
  have g2 : ∀ M, e_gf 770 [192] M = some 195 := fun M => r_g 770 195 M (by decide +kernel)
  have g4 : ∀ M, e_gf 772 [192] M = some 197 := fun M => r_g 772 197 M (by decide +kernel)
  have g5 : ∀ M, e_gf 773 [192] M = some 198 := fun M => r_g 773 198 M (by decide +kernel)
  have g10 : ∀ M, e_gf 778 [192] M = some (M 192 10) := fun M => c_gf r_ref (by decide +kernel)
  have p10 : ∀ v M, e_pf 778 [192, v] M = some (e_up M 192 10 v) := fun v M => c_pf r_ref (by decide +kernel)
  have b1 : ∀ a, e_b1 1 a = some a := fun _ => rfl
  have b22 : ∀ a, e_b1 22 a = some a := fun _ => rfl
  have b46 : ∀ a, e_b1 46 a = some (if a = 0 then 1 else 0) := fun _ => rfl
  have hup : ∀ {x : Int}, (-2147483648 ≤ x ∧ x ≤ 2147483647) → a_M (e_up M 192 10 x) ∧ a_fr [(192, 10, 10)] M (e_up M 192 10 x) := by
    intro x hx
    refine ⟨r_up (by decide) (by decide +kernel) (by decide +kernel) hx hM, fun b j hw => c_up_n (fun hc => hw _ List.mem_cons_self ⟨hc.1.symm, ?_, ?_⟩)⟩
    · rw [hc.2]; exact Nat.le_refl _
    · rw [hc.2]; exact Nat.le_refl _
  rw [h1]
  unfold e_t261_0
  have u1 : ∀ v, e_up M 192 10 v 192 10 = v := fun v => c_up_s
  by_cases q0 : 0 ≤ d ∧ d ≤ 7
  · obtain ⟨l1, -, l3, -, -, -⟩ := r_isD d M q0
    have hz := hI d.toNat (by omega)
    have w0 : e_w (M 197 d.toNat - 1) = M 197 d.toNat - 1 := a_w_id (by omega) (by omega)
    by_cases q1 : M 195 d.toNat = 2
    · by_cases q2 : 0 ≤ i ∧ i ≤ M 197 d.toNat - 1
      · have w1 : e_w (120 * d) = 120 * d := a_w_id (by omega) (by omega)
        have w2 : e_w (120 * d + i) = 120 * d + i := a_w_id (by omega) (by omega)
        have hb := hup (x := 0) (by decide)
        have ld : e_op 60 [198, 120 * d + i] (e_up M 192 10 0) = some (e_up M 192 10 0 198 (120 * d + i).toNat) := r_ld (n := 960) (by decide) (by decide +kernel) (by decide +kernel) (by omega) (by omega)
        have hr := c_M32 (id := 198) (k := (120 * d + i).toNat) hb.1 (by decide) (by decide +kernel)
        generalize hg : e_up M 192 10 0 198 (120 * d + i).toNat = x at ld hr
        exact ⟨x, e_up M 192 10 0, by simp [e_tv, e_ev, e_sv, b1, b22, b46, e_b2, x_o1, x_o2, r_isShelf, r_isIn, q0, g2, g4, g5, g10, p10, l1, l3, w0, w1, w2, q1, q2, u1, ld], hr, hb.1, hb.2⟩
      · have hb := hup (x := 2) (by decide)
        exact ⟨0, e_up M 192 10 2, by simp [e_tv, e_ev, e_sv, b1, b22, b46, e_b2, x_o1, x_o2, r_isShelf, r_isIn, q0, g2, g4, g5, g10, p10, l1, l3, w0, q1, q2, u1], by decide, hb.1, hb.2⟩
    · have hb := hup (x := 2) (by decide)
      exact ⟨0, e_up M 192 10 2, by simp [e_tv, e_ev, e_sv, b1, b22, b46, e_b2, x_o1, x_o2, r_isShelf, r_isIn, q0, g2, g4, g5, g10, p10, l1, l3, w0, q1, u1], by decide, hb.1, hb.2⟩
  · have hb := hup (x := 1) (by decide)
    exact ⟨0, e_up M 192 10 1, by simp [e_tv, e_ev, e_sv, b1, b22, b46, e_b2, x_o1, x_o2, r_isShelf, r_isIn, q0, g2, g4, g5, g10, p10, u1], by decide, hb.1, hb.2⟩
