/-! the store by the reference: what is taken and sold -/
def r_sv (M : EM) : Prop := r_J M
/-- rows of the store from HOUR h on: what is taken there at most, and what is sold leaves no more than ROOM -/
def r_soldH (M : EM) (h l : Int) : Prop := 0 ≤ l + r_G M (1174 + 2 * h) - M 211 (31 * h + l).toNat ∧ l + r_G M (1174 + 2 * h) - M 211 (31 * h + l).toNat ≤ r_G M 1199
def r_takH (M : EM) (h l : Int) : Prop := 0 ≤ M 210 (31 * h + l).toNat ∧ M 210 (31 * h + l).toNat ≤ 5000 * (12 - h)
/-- HOURS after h are ready -/
def r_rdy (M : EM) (h : Int) : Prop := (∀ l, 0 ≤ l → l ≤ 30 → r_takH M 12 l) ∧ (∀ k l, h < k → k < 12 → 0 ≤ l → l ≤ r_G M 1199 → r_takH M k l ∧ r_soldH M k l)
theorem r_Zof {M : EM} (hJ : r_J M) : r_Z (r_G M) := hJ.2.2.1.2.2.2
theorem r_u10 {M : EM} {k : Nat} {v : Int} (hk : k ≤ 402) (hv : -2147483648 ≤ v ∧ v ≤ 2147483647) (hJ : r_J M) : r_J (e_up M 210 k v) ∧ a_fr r_wq M (e_up M 210 k v) := r_qarr (n := 402) (by decide) hk hv hJ
theorem r_u11 {M : EM} {k : Nat} {v : Int} (hk : k ≤ 402) (hv : -2147483648 ≤ v ∧ v ≤ 2147483647) (hJ : r_J M) : r_J (e_up M 211 k v) ∧ a_fr r_wq M (e_up M 211 k v) := r_qarr (n := 402) (by decide) hk hv hJ
theorem r_ld10 {i : Int} {M : EM} (h0 : 0 ≤ i) (hi : i ≤ 402) : e_op 60 [210, i] M = some (M 210 i.toNat) := r_rdA (a := 210) (n := 402) (by decide) (by decide) (by decide +kernel) h0 hi
theorem r_ld11 {i : Int} {M : EM} (h0 : 0 ≤ i) (hi : i ≤ 402) : e_op 60 [211, i] M = some (M 211 i.toNat) := r_rdA (a := 211) (n := 402) (by decide) (by decide) (by decide +kernel) h0 hi
theorem r_st10 {i v : Int} {M : EM} (h0 : 0 ≤ i) (hi : i ≤ 402) : e_st 100 [210, i, v] M = some (e_up M 210 i.toNat v) := r_stA (a := 210) (n := 402) (by decide) (by decide) (by decide +kernel) h0 hi
theorem r_st11 {i v : Int} {M : EM} (h0 : 0 ≤ i) (hi : i ≤ 402) : e_st 100 [211, i, v] M = some (e_up M 211 i.toNat v) := r_stA (a := 211) (n := 402) (by decide) (by decide) (by decide +kernel) h0 hi
/-- at HOUR h levels below l are ready too -/
def r_lev (M : EM) (h l : Int) : Prop := ∀ j, 0 ≤ j → j < l → r_takH M h j ∧ r_soldH M h j
theorem r_tak_ne {M : EM} {h l h' l' v : Int} (hh : 0 ≤ h ∧ h ≤ 12) (hl : 0 ≤ l ∧ l ≤ 30) (hh' : 0 ≤ h' ∧ h' ≤ 12) (hl' : 0 ≤ l' ∧ l' ≤ 30) (hne : h ≠ h' ∨ l ≠ l') : (e_up M 210 (31 * h' + l').toNat v) 210 (31 * h + l).toNat = M 210 (31 * h + l).toNat := c_up_n (fun hc => by omega)
theorem r_sol_ne {M : EM} {h l h' l' v : Int} (hh : 0 ≤ h ∧ h ≤ 12) (hl : 0 ≤ l ∧ l ≤ 30) (hh' : 0 ≤ h' ∧ h' ≤ 12) (hl' : 0 ≤ l' ∧ l' ≤ 30) (hne : h ≠ h' ∨ l ≠ l') : (e_up M 211 (31 * h' + l').toNat v) 211 (31 * h + l).toNat = M 211 (31 * h + l).toNat := c_up_n (fun hc => by omega)
theorem r_up_Gne {M : EM} {a k : Nat} {v : Int} (ha : a ≠ 193) : r_G (e_up M a k v) = r_G M := funext fun i => c_up_n (fun hc => ha hc.1.symm)
/-- a level's own search: x5 from what must be sold on -/
theorem r_fs_x {h l s p rm : Int} (hh : 0 ≤ h ∧ h < 12) (hl : 0 ≤ l ∧ l ≤ rm) (hrm : rm ≤ 30) (hs : 0 ≤ s ∧ s ≤ 20) (hp : 0 ≤ p ∧ p ≤ 99) (H : ∀ M, r_J M → r_G M 1199 = rm → r_G M (1174 + 2 * h) = s → r_G M (1174 + 2 * h + 1) = p → r_rdy M h → r_lev M h (l + 1) → ∀ x3 x4 x5 x6, ∃ M', E_V 243 34 [192, h, l + 1, x3, x4, x5, x6] M = some (0, M') ∧ r_J M' ∧ a_fr r_wq M M' ∧ r_rdy M' (-1)) : ∀ (m : Nat) (x4 x5 x6 : Int) (M : EM), r_J M → r_G M 1199 = rm → r_G M (1174 + 2 * h) = s → r_G M (1174 + 2 * h + 1) = p → r_rdy M h → r_lev M h l → (l + s + 1 - x5).toNat ≤ m → 0 ≤ x5 → l + s - rm ≤ x5 → x5 ≤ l + s + 1 → (x4 = -1 ∧ x5 ≤ l + s ∨ (0 ≤ x4 ∧ x4 ≤ 5000 * (12 - h) ∧ r_soldH M h l)) → ∃ M', E_V 243 92 [192, h, l, l + s, x4, x5, x6] M = some (0, M') ∧ r_J M' ∧ a_fr r_wq M M' ∧ r_rdy M' (-1) := by
  have w1 : e_w (2 * h) = 2 * h := a_w_id (by omega) (by omega)
  have w2 : e_w (1174 + 2 * h) = 1174 + 2 * h := a_w_id (by omega) (by omega)
  have w3 : e_w (1174 + 2 * h + 1) = 1174 + 2 * h + 1 := a_w_id (by omega) (by omega)
  have w4 : e_w (h + 1) = h + 1 := a_w_id (by omega) (by omega)
  have w5 : e_w (31 * (h + 1)) = 31 * (h + 1) := a_w_id (by omega) (by omega)
  have w6 : e_w (31 * (h + 1) + (l + s)) = 31 * (h + 1) + (l + s) := a_w_id (by omega) (by omega)
  have w7 : e_w (31 * h) = 31 * h := a_w_id (by omega) (by omega)
  have w8 : e_w (31 * h + l) = 31 * h + l := a_w_id (by omega) (by omega)
  have w9 : e_w (l + 1) = l + 1 := a_w_id (by omega) (by omega)
  have hend : ∀ x4 x5 x6 M, r_J M → r_G M 1199 = rm → r_G M (1174 + 2 * h) = s → r_G M (1174 + 2 * h + 1) = p → r_rdy M h → r_lev M h l → ¬ (x5 ≤ l + s) → (0 ≤ x4 ∧ x4 ≤ 5000 * (12 - h) ∧ r_soldH M h l) → ∃ M', E_V 243 92 [192, h, l, l + s, x4, x5, x6] M = some (0, M') ∧ r_J M' ∧ a_fr r_wq M M' ∧ r_rdy M' (-1) := by
    intro x4 x5 x6 M hJ g1 g2 g3 hr hv q h4
    obtain ⟨h4a, h4b, h4c⟩ := h4
    obtain ⟨u1, u2⟩ := r_u10 (M := M) (k := (31 * h + l).toNat) (v := x4) (by omega) ⟨by omega, by omega⟩ hJ
    have eG : r_G (e_up M 210 (31 * h + l).toNat x4) = r_G M := r_up_Gne (by decide)
    have e11 : ∀ j, (e_up M 210 (31 * h + l).toNat x4) 211 j = M 211 j := fun j => c_up_n (fun hc => absurd hc.1 (by decide))
    have hr' : r_rdy (e_up M 210 (31 * h + l).toNat x4) h := by
      refine ⟨fun j j0 j1 => ?_, fun k j k0 k1 j0 j1 => ?_⟩
      · unfold r_takH
        rw [r_tak_ne (by omega) ⟨j0, j1⟩ (by omega) (by omega) (Or.inl (by omega))]
        exact hr.1 j j0 j1
      · rw [eG] at j1
        unfold r_takH r_soldH
        rw [r_tak_ne (by omega) ⟨j0, by omega⟩ (by omega) (by omega) (Or.inl (by omega)), eG, e11]
        exact hr.2 k j k0 k1 j0 j1
    have hv' : r_lev (e_up M 210 (31 * h + l).toNat x4) h (l + 1) := by
      intro j j0 j1
      unfold r_takH r_soldH
      rw [eG, e11]
      by_cases hj : j = l
      · subst hj
        rw [c_up_s]
        exact ⟨⟨h4a, h4b⟩, h4c⟩
      · rw [r_tak_ne (by omega) ⟨j0, by omega⟩ (by omega) (by omega) (Or.inr hj)]
        exact hv j j0 (by omega)
    obtain ⟨M', k, t1, t2, t3⟩ := H _ u1 (by rw [eG]; exact g1) (by rw [eG]; exact g2) (by rw [eG]; exact g3) hr' hv' (l + s) x4 x5 x6
    refine ⟨M', ?_, t1, a_fr_tr u2 t2, t3⟩
    have st := r_st10 (i := 31 * h + l) (v := x4) (M := M) (by omega) (by omega)
    rw [E_V_eq]
    show e_tv E_C (E_V 243) e_t243_92 [192, h, l, l + s, x4, x5, x6] M = _
    unfold e_t243_92
    simp [zq_a, zq_b, zq_c, zq_d, zq_e, zq_f, zq_g, zq_h, zq_i, zq_j, zq_k, zq_l, zq_m, zq_n, zq_o, zq_p, zq_q, zq_r, zq_s, zq_t, zq_u, zq_v, zq_w, zq_x, zq_y, zq_z, zq_A, zq_B, zq_C, zq_D, zq_E, zq_F, zq_G, zq_H, zq_I, zq_J, zq_K, zq_L, ↓zq_M, ↓zq_N, ↓zq_O, ↓zq_P, ↓zq_Q, ↓zq_R, zq_S, zq_T, zq_U, zq_V, zq_W, zq_X, zq_Y, zq_Z, zq_0, zq_1, zq_2, zq_3, zq_4, zq_5, ↓zq_6, ↓zq_7, ↓zq_8, ↓zq_9, ↓zq_aa, zq_ab, zq_ac, zq_ad, zq_ae, zq_af, zq_ag, ↓zq_ah, ↓zq_ai, ↓zq_aj, zq_ak, ↓zq_al, ↓zq_am, e_b1, e_b2, x_o1, x_o2, r_O37, q, w7, w8, w9, st, k]
  intro m
  induction m with
  | zero =>
    intro x4 x5 x6 M hJ g1 g2 g3 hr hv hm h0 h1 h2 h4
    rcases h4 with h4 | h4
    · omega
    · exact hend x4 x5 x6 M hJ g1 g2 g3 hr hv (by omega) h4
  | succ m ih =>
    intro x4 x5 x6 M hJ g1 g2 g3 hr hv hm h0 h1 h2 h4
    rcases x_le x5 (l + s) with ⟨q, q_n⟩ | ⟨q, q_n⟩
    · have wa : e_w (31 * (h + 1) + (l + s) - x5) = 31 * (h + 1) + (l + s) - x5 := a_w_id (by omega) (by omega)
      have wb : e_w (x5 + 1) = x5 + 1 := a_w_id (by omega) (by omega)
      have l3 : e_op 60 [193, 1174 + 2 * h + 1] M = some p := (r_rd (by omega) (by omega)).trans (congrArg some g3)
      have l4 := r_ld10 (i := 31 * (h + 1) + (l + s) - x5) (M := M) (by omega) (by omega)
      have hx : 0 ≤ x5 * p ∧ x5 * p ≤ 50 * 99 := ⟨Int.mul_nonneg h0 hp.1, Int.mul_le_mul (by omega) hp.2 hp.1 (by decide)⟩
      have hz : r_Z (r_G M) := r_Zof hJ
      have htk : 0 ≤ M 210 (31 * (h + 1) + (l + s) - x5).toNat ∧ M 210 (31 * (h + 1) + (l + s) - x5).toNat ≤ 5000 * (12 - (h + 1)) := by
        have e : 31 * (h + 1) + (l + s) - x5 = 31 * (h + 1) + (l + s - x5) := by omega
        rw [e]
        by_cases h12 : h + 1 = 12
        · rw [h12]; exact hr.1 _ (by omega) (by omega)
        · exact (hr.2 (h + 1) (l + s - x5) (by omega) (by omega) (by omega) (by rw [g1]; omega)).1
      have wc : e_w (x5 * p) = x5 * p := a_w_id (by omega) (by omega)
      have wd : e_w (x5 * p + M 210 (31 * (h + 1) + (l + s) - x5).toNat) = x5 * p + M 210 (31 * (h + 1) + (l + s) - x5).toNat := a_w_id (by omega) (by omega)
      generalize hy : x5 * p + M 210 (31 * (h + 1) + (l + s) - x5).toNat = y at wd
      have hyr : 0 ≤ y ∧ y ≤ 5000 * (12 - h) := by omega
      rcases x_le y x4 with ⟨c, c_n⟩ | ⟨c, c_n⟩
      · have h4' : 0 ≤ x4 ∧ x4 ≤ 5000 * (12 - h) ∧ r_soldH M h l := by
          rcases h4 with h4 | h4
          · omega
          · exact h4
        obtain ⟨M', k, t⟩ := ih x4 (x5 + 1) y M hJ g1 g2 g3 hr hv (by omega) (by omega) (by omega) (by omega) (Or.inr h4')
        refine ⟨M', ?_, t⟩
        have k161 : E_V 243 161 [192, h, l, l + s, x4, x5, y] M = some (0, M') := by
          rw [E_V_eq]
          show e_tv E_C (E_V 243) e_t243_161 [192, h, l, l + s, x4, x5, y] M = _
          unfold e_t243_161
          simp [zq_a, zq_b, zq_c, zq_d, zq_e, zq_f, zq_g, zq_h, zq_i, zq_j, zq_k, zq_l, zq_m, zq_n, zq_o, zq_p, zq_q, zq_r, zq_s, zq_t, zq_u, zq_v, zq_w, zq_x, zq_y, zq_z, zq_A, zq_B, zq_C, zq_D, zq_E, zq_F, zq_G, zq_H, zq_I, zq_J, zq_K, zq_L, ↓zq_M, ↓zq_N, ↓zq_O, ↓zq_P, ↓zq_Q, ↓zq_R, zq_S, zq_T, zq_U, zq_V, zq_W, zq_X, zq_Y, zq_Z, zq_0, zq_1, zq_2, zq_3, zq_4, zq_5, ↓zq_6, ↓zq_7, ↓zq_8, ↓zq_9, ↓zq_aa, zq_ab, zq_ac, zq_ad, zq_ae, zq_af, zq_ag, ↓zq_ah, ↓zq_ai, ↓zq_aj, zq_ak, ↓zq_al, ↓zq_am, e_b1, e_b2, x_o1, x_o2, wb, k]
        rw [E_V_eq]
        show e_tv E_C (E_V 243) e_t243_92 [192, h, l, l + s, x4, x5, x6] M = _
        unfold e_t243_92
        simp [zq_a, zq_b, zq_c, zq_d, zq_e, zq_f, zq_g, zq_h, zq_i, zq_j, zq_k, zq_l, zq_m, zq_n, zq_o, zq_p, zq_q, zq_r, zq_s, zq_t, zq_u, zq_v, zq_w, zq_x, zq_y, zq_z, zq_A, zq_B, zq_C, zq_D, zq_E, zq_F, zq_G, zq_H, zq_I, zq_J, zq_K, zq_L, ↓zq_M, ↓zq_N, ↓zq_O, ↓zq_P, ↓zq_Q, ↓zq_R, zq_S, zq_T, zq_U, zq_V, zq_W, zq_X, zq_Y, zq_Z, zq_0, zq_1, zq_2, zq_3, zq_4, zq_5, ↓zq_6, ↓zq_7, ↓zq_8, ↓zq_9, ↓zq_aa, zq_ab, zq_ac, zq_ad, zq_ae, zq_af, zq_ag, ↓zq_ah, ↓zq_ai, ↓zq_aj, zq_ak, ↓zq_al, ↓zq_am, e_b1, e_b2, x_o1, x_o2, r_O0, r_O37, q, q_n, w1, w2, w3, w4, w5, w6, wa, l3, l4, wc, hy, wd, c, c_n, k161]
      · have st := r_st11 (i := 31 * h + l) (v := x5) (M := M) (by omega) (by omega)
        obtain ⟨u1, u2⟩ := r_u11 (M := M) (k := (31 * h + l).toNat) (v := x5) (by omega) ⟨by omega, by omega⟩ hJ
        have eG : r_G (e_up M 211 (31 * h + l).toNat x5) = r_G M := r_up_Gne (by decide)
        have e10 : ∀ j, (e_up M 211 (31 * h + l).toNat x5) 210 j = M 210 j := fun j => c_up_n (fun hc => absurd hc.1 (by decide))
        have hr' : r_rdy (e_up M 211 (31 * h + l).toNat x5) h := by
          refine ⟨fun j j0 j1 => ?_, fun k j k0 k1 j0 j1 => ?_⟩
          · unfold r_takH
            rw [e10]
            exact hr.1 j j0 j1
          · rw [eG] at j1
            unfold r_takH r_soldH
            rw [r_sol_ne (by omega) ⟨j0, by omega⟩ (by omega) (by omega) (Or.inl (by omega)), eG, e10]
            exact hr.2 k j k0 k1 j0 j1
        have hv' : r_lev (e_up M 211 (31 * h + l).toNat x5) h l := by
          intro j j0 j1
          unfold r_takH r_soldH
          rw [eG, e10, r_sol_ne (by omega) ⟨j0, by omega⟩ (by omega) (by omega) (Or.inr (by omega))]
          exact hv j j0 j1
        have hs' : r_soldH (e_up M 211 (31 * h + l).toNat x5) h l := by
          unfold r_soldH
          rw [eG, c_up_s, g1, g2]
          omega
        obtain ⟨M', k, t1, t2, t3⟩ := ih y (x5 + 1) y _ u1 (by rw [eG]; exact g1) (by rw [eG]; exact g2) (by rw [eG]; exact g3) hr' hv' (by omega) (by omega) (by omega) (by omega) (Or.inr ⟨hyr.1, hyr.2, hs'⟩)
        refine ⟨M', ?_, t1, a_fr_tr u2 t2, t3⟩
        have k161 : E_V 243 161 [192, h, l, l + s, y, x5, y] (e_up M 211 (31 * h + l).toNat x5) = some (0, M') := by
          rw [E_V_eq]
          show e_tv E_C (E_V 243) e_t243_161 [192, h, l, l + s, y, x5, y] (e_up M 211 (31 * h + l).toNat x5) = _
          unfold e_t243_161
          simp [zq_a, zq_b, zq_c, zq_d, zq_e, zq_f, zq_g, zq_h, zq_i, zq_j, zq_k, zq_l, zq_m, zq_n, zq_o, zq_p, zq_q, zq_r, zq_s, zq_t, zq_u, zq_v, zq_w, zq_x, zq_y, zq_z, zq_A, zq_B, zq_C, zq_D, zq_E, zq_F, zq_G, zq_H, zq_I, zq_J, zq_K, zq_L, ↓zq_M, ↓zq_N, ↓zq_O, ↓zq_P, ↓zq_Q, ↓zq_R, zq_S, zq_T, zq_U, zq_V, zq_W, zq_X, zq_Y, zq_Z, zq_0, zq_1, zq_2, zq_3, zq_4, zq_5, ↓zq_6, ↓zq_7, ↓zq_8, ↓zq_9, ↓zq_aa, zq_ab, zq_ac, zq_ad, zq_ae, zq_af, zq_ag, ↓zq_ah, ↓zq_ai, ↓zq_aj, zq_ak, ↓zq_al, ↓zq_am, e_b1, e_b2, x_o1, x_o2, wb, k]
        rw [E_V_eq]
        show e_tv E_C (E_V 243) e_t243_92 [192, h, l, l + s, x4, x5, x6] M = _
        unfold e_t243_92
        simp [zq_a, zq_b, zq_c, zq_d, zq_e, zq_f, zq_g, zq_h, zq_i, zq_j, zq_k, zq_l, zq_m, zq_n, zq_o, zq_p, zq_q, zq_r, zq_s, zq_t, zq_u, zq_v, zq_w, zq_x, zq_y, zq_z, zq_A, zq_B, zq_C, zq_D, zq_E, zq_F, zq_G, zq_H, zq_I, zq_J, zq_K, zq_L, ↓zq_M, ↓zq_N, ↓zq_O, ↓zq_P, ↓zq_Q, ↓zq_R, zq_S, zq_T, zq_U, zq_V, zq_W, zq_X, zq_Y, zq_Z, zq_0, zq_1, zq_2, zq_3, zq_4, zq_5, ↓zq_6, ↓zq_7, ↓zq_8, ↓zq_9, ↓zq_aa, zq_ab, zq_ac, zq_ad, zq_ae, zq_af, zq_ag, ↓zq_ah, ↓zq_ai, ↓zq_aj, zq_ak, ↓zq_al, ↓zq_am, e_b1, e_b2, x_o1, x_o2, r_O0, r_O37, r_O38, q, q_n, w1, w2, w3, w4, w5, w6, w7, w8, wa, l3, l4, wc, hy, wd, c, c_n, st, k161]
    · have h4' : 0 ≤ x4 ∧ x4 ≤ 5000 * (12 - h) ∧ r_soldH M h l := by
        rcases h4 with h4 | h4
        · omega
        · exact h4
      exact hend x4 x5 x6 M hJ g1 g2 g3 hr hv q h4'
theorem r_fs_l {h s p rm : Int} (hh : 0 ≤ h ∧ h < 12) (hrm : 0 ≤ rm ∧ rm ≤ 30) (hs : 0 ≤ s ∧ s ≤ 20) (hp : 0 ≤ p ∧ p ≤ 99) (H : ∀ M, r_J M → r_rdy M (h - 1) → ∀ x2 x3 x4 x5 x6, ∃ M', E_V 243 28 [192, h - 1, x2, x3, x4, x5, x6] M = some (0, M') ∧ r_J M' ∧ a_fr r_wq M M' ∧ r_rdy M' (-1)) : ∀ (m : Nat) (l x3 x4 x5 x6 : Int) (M : EM), r_J M → r_G M 1199 = rm → r_G M (1174 + 2 * h) = s → r_G M (1174 + 2 * h + 1) = p → r_rdy M h → r_lev M h l → (rm + 1 - l).toNat ≤ m → 0 ≤ l → l ≤ rm + 1 → ∃ M', E_V 243 34 [192, h, l, x3, x4, x5, x6] M = some (0, M') ∧ r_J M' ∧ a_fr r_wq M M' ∧ r_rdy M' (-1) := by
  have w1 : e_w (2 * h) = 2 * h := a_w_id (by omega) (by omega)
  have w2 : e_w (1174 + 2 * h) = 1174 + 2 * h := a_w_id (by omega) (by omega)
  have w4 : e_w (h + -1) = h - 1 := a_w_id (by omega) (by omega)
  have hend : ∀ l x3 x4 x5 x6 M, r_J M → r_G M 1199 = rm → r_rdy M h → r_lev M h l → ¬ (l ≤ rm) → ∃ M', E_V 243 34 [192, h, l, x3, x4, x5, x6] M = some (0, M') ∧ r_J M' ∧ a_fr r_wq M M' ∧ r_rdy M' (-1) := by
    intro l x3 x4 x5 x6 M hJ g1 hr hv q
    have l1 : e_op 60 [193, 1199] M = some rm := (r_rd (by decide) (by decide)).trans (congrArg some g1)
    have hr' : r_rdy M (h - 1) := by
      refine ⟨hr.1, fun k j k0 k1 j0 j1 => ?_⟩
      by_cases hk : k = h
      · subst hk
        exact hv j j0 (by omega)
      · exact hr.2 k j (by omega) k1 j0 j1
    obtain ⟨M', k, t⟩ := H M hJ hr' l x3 x4 x5 x6
    refine ⟨M', ?_, t⟩
    rw [E_V_eq]
    show e_tv E_C (E_V 243) e_t243_34 [192, h, l, x3, x4, x5, x6] M = _
    unfold e_t243_34
    simp [zq_a, zq_b, zq_c, zq_d, zq_e, zq_f, zq_g, zq_h, zq_i, zq_j, zq_k, zq_l, zq_m, zq_n, zq_o, zq_p, zq_q, zq_r, zq_s, zq_t, zq_u, zq_v, zq_w, zq_x, zq_y, zq_z, zq_A, zq_B, zq_C, zq_D, zq_E, zq_F, zq_G, zq_H, zq_I, zq_J, zq_K, zq_L, ↓zq_M, ↓zq_N, ↓zq_O, ↓zq_P, ↓zq_Q, ↓zq_R, zq_S, zq_T, zq_U, zq_V, zq_W, zq_X, zq_Y, zq_Z, zq_0, zq_1, zq_2, zq_3, zq_4, zq_5, ↓zq_6, ↓zq_7, ↓zq_8, ↓zq_9, ↓zq_aa, zq_ab, zq_ac, zq_ad, zq_ae, zq_af, zq_ag, ↓zq_ah, ↓zq_ai, ↓zq_aj, zq_ak, ↓zq_al, ↓zq_am, e_b1, e_b2, x_o1, x_o2, r_O0, l1, q, w4, k]
  intro m
  induction m with
  | zero => intro l x3 x4 x5 x6 M hJ g1 g2 g3 hr hv hm h0 h1; exact hend l x3 x4 x5 x6 M hJ g1 hr hv (by omega)
  | succ m ih =>
    intro l x3 x4 x5 x6 M hJ g1 g2 g3 hr hv hm h0 h1
    rcases x_le l rm with ⟨q, q_n⟩ | ⟨q, q_n⟩
    · have l1 : e_op 60 [193, 1199] M = some rm := (r_rd (by decide) (by decide)).trans (congrArg some g1)
      have l2 : e_op 60 [193, 1174 + 2 * h] M = some s := (r_rd (by omega) (by omega)).trans (congrArg some g2)
      have w5 : e_w (l + s) = l + s := a_w_id (by omega) (by omega)
      have w6 : e_w (l + s - rm) = l + s - rm := a_w_id (by omega) (by omega)
      have H2 : ∀ M, r_J M → r_G M 1199 = rm → r_G M (1174 + 2 * h) = s → r_G M (1174 + 2 * h + 1) = p → r_rdy M h → r_lev M h (l + 1) → ∀ x3 x4 x5 x6, ∃ M', E_V 243 34 [192, h, l + 1, x3, x4, x5, x6] M = some (0, M') ∧ r_J M' ∧ a_fr r_wq M M' ∧ r_rdy M' (-1) := fun M1 j1 j2 j3 j4 j5 j6 y3 y4 y5 y6 => ih (l + 1) y3 y4 y5 y6 M1 j1 j2 j3 j4 j5 j6 (by omega) (by omega) (by omega)
      rcases x_lt rm (l + s) with ⟨c, c_n⟩ | ⟨c, c_n⟩
      · obtain ⟨M', k, t⟩ := r_fs_x hh ⟨h0, q⟩ hrm.2 hs hp H2 _ (-1) (l + s - rm) x6 M hJ g1 g2 g3 hr hv (Nat.le_refl _) (by omega) (by omega) (by omega) (Or.inl ⟨rfl, by omega⟩)
        refine ⟨M', ?_, t⟩
        rw [E_V_eq]
        show e_tv E_C (E_V 243) e_t243_34 [192, h, l, x3, x4, x5, x6] M = _
        unfold e_t243_34
        simp [zq_a, zq_b, zq_c, zq_d, zq_e, zq_f, zq_g, zq_h, zq_i, zq_j, zq_k, zq_l, zq_m, zq_n, zq_o, zq_p, zq_q, zq_r, zq_s, zq_t, zq_u, zq_v, zq_w, zq_x, zq_y, zq_z, zq_A, zq_B, zq_C, zq_D, zq_E, zq_F, zq_G, zq_H, zq_I, zq_J, zq_K, zq_L, ↓zq_M, ↓zq_N, ↓zq_O, ↓zq_P, ↓zq_Q, ↓zq_R, zq_S, zq_T, zq_U, zq_V, zq_W, zq_X, zq_Y, zq_Z, zq_0, zq_1, zq_2, zq_3, zq_4, zq_5, ↓zq_6, ↓zq_7, ↓zq_8, ↓zq_9, ↓zq_aa, zq_ab, zq_ac, zq_ad, zq_ae, zq_af, zq_ag, ↓zq_ah, ↓zq_ai, ↓zq_aj, zq_ak, ↓zq_al, ↓zq_am, e_b1, e_b2, x_o1, x_o2, r_O0, l1, l2, q, q_n, w1, w2, w5, w6, c, c_n, k]
      · obtain ⟨M', k, t⟩ := r_fs_x hh ⟨h0, q⟩ hrm.2 hs hp H2 _ (-1) 0 x6 M hJ g1 g2 g3 hr hv (Nat.le_refl _) (by omega) (by omega) (by omega) (Or.inl ⟨rfl, by omega⟩)
        refine ⟨M', ?_, t⟩
        rw [E_V_eq]
        show e_tv E_C (E_V 243) e_t243_34 [192, h, l, x3, x4, x5, x6] M = _
        unfold e_t243_34
        simp [zq_a, zq_b, zq_c, zq_d, zq_e, zq_f, zq_g, zq_h, zq_i, zq_j, zq_k, zq_l, zq_m, zq_n, zq_o, zq_p, zq_q, zq_r, zq_s, zq_t, zq_u, zq_v, zq_w, zq_x, zq_y, zq_z, zq_A, zq_B, zq_C, zq_D, zq_E, zq_F, zq_G, zq_H, zq_I, zq_J, zq_K, zq_L, ↓zq_M, ↓zq_N, ↓zq_O, ↓zq_P, ↓zq_Q, ↓zq_R, zq_S, zq_T, zq_U, zq_V, zq_W, zq_X, zq_Y, zq_Z, zq_0, zq_1, zq_2, zq_3, zq_4, zq_5, ↓zq_6, ↓zq_7, ↓zq_8, ↓zq_9, ↓zq_aa, zq_ab, zq_ac, zq_ad, zq_ae, zq_af, zq_ag, ↓zq_ah, ↓zq_ai, ↓zq_aj, zq_ak, ↓zq_al, ↓zq_am, e_b1, e_b2, x_o1, x_o2, r_O0, l1, l2, q, q_n, w1, w2, w5, c, c_n, k]
    · exact hend l x3 x4 x5 x6 M hJ g1 hr hv q
theorem r_fs_h : ∀ (m : Nat) (h x2 x3 x4 x5 x6 : Int) (M : EM), r_J M → r_rdy M h → (h + 1).toNat ≤ m → -1 ≤ h → h < 12 → ∃ M', E_V 243 28 [192, h, x2, x3, x4, x5, x6] M = some (0, M') ∧ r_J M' ∧ a_fr r_wq M M' ∧ r_rdy M' (-1) := by
  have hend : ∀ h x2 x3 x4 x5 x6 M, r_J M → r_rdy M h → -1 ≤ h → ¬ (0 ≤ h) → ∃ M', E_V 243 28 [192, h, x2, x3, x4, x5, x6] M = some (0, M') ∧ r_J M' ∧ a_fr r_wq M M' ∧ r_rdy M' (-1) := by
    intro h x2 x3 x4 x5 x6 M hJ hr h1 q
    have he : h = -1 := by omega
    subst he
    refine ⟨M, ?_, hJ, a_fr_rf, hr⟩
    rw [E_V_eq]
    show e_tv E_C (E_V 243) e_t243_28 [192, -1, x2, x3, x4, x5, x6] M = _
    unfold e_t243_28
    simp [zq_a, zq_b, zq_c, zq_d, zq_e, zq_f, zq_g, zq_h, zq_i, zq_j, zq_k, zq_l, zq_m, zq_n, zq_o, zq_p, zq_q, zq_r, zq_s, zq_t, zq_u, zq_v, zq_w, zq_x, zq_y, zq_z, zq_A, zq_B, zq_C, zq_D, zq_E, zq_F, zq_G, zq_H, zq_I, zq_J, zq_K, zq_L, ↓zq_M, ↓zq_N, ↓zq_O, ↓zq_P, ↓zq_Q, ↓zq_R, zq_S, zq_T, zq_U, zq_V, zq_W, zq_X, zq_Y, zq_Z, zq_0, zq_1, zq_2, zq_3, zq_4, zq_5, ↓zq_6, ↓zq_7, ↓zq_8, ↓zq_9, ↓zq_aa, zq_ab, zq_ac, zq_ad, zq_ae, zq_af, zq_ag, ↓zq_ah, ↓zq_ai, ↓zq_aj, zq_ak, ↓zq_al, ↓zq_am, e_b1, e_b2, x_o1, x_o2]
  intro m
  induction m with
  | zero => intro h x2 x3 x4 x5 x6 M hJ hr hm h0 h1; exact hend h x2 x3 x4 x5 x6 M hJ hr h0 (by omega)
  | succ m ih =>
    intro h x2 x3 x4 x5 x6 M hJ hr hm h0 h1
    rcases x_le 0 h with ⟨q, q_n⟩ | ⟨q, q_n⟩
    · have hz := r_Zof hJ
      obtain ⟨z1, z2, z3, -⟩ := hz
      obtain ⟨y1, y2, y3, y4⟩ := z3 h q h1
      obtain ⟨M', k, t⟩ := r_fs_l (h := h) ⟨q, h1⟩ ⟨z1, z2⟩ ⟨y1, y2⟩ ⟨y3, y4⟩ (fun M1 j1 j2 u2 u3 u4 u5 u6 => ih (h - 1) u2 u3 u4 u5 u6 M1 j1 j2 (by omega) (by omega) (by omega)) _ 0 x3 x4 x5 x6 M hJ rfl rfl rfl hr (fun j j0 j1 => by omega) (Nat.le_refl _) (by decide) (by omega)
      refine ⟨M', ?_, t⟩
      rw [E_V_eq]
      show e_tv E_C (E_V 243) e_t243_28 [192, h, x2, x3, x4, x5, x6] M = _
      unfold e_t243_28
      simp [zq_a, zq_b, zq_c, zq_d, zq_e, zq_f, zq_g, zq_h, zq_i, zq_j, zq_k, zq_l, zq_m, zq_n, zq_o, zq_p, zq_q, zq_r, zq_s, zq_t, zq_u, zq_v, zq_w, zq_x, zq_y, zq_z, zq_A, zq_B, zq_C, zq_D, zq_E, zq_F, zq_G, zq_H, zq_I, zq_J, zq_K, zq_L, ↓zq_M, ↓zq_N, ↓zq_O, ↓zq_P, ↓zq_Q, ↓zq_R, zq_S, zq_T, zq_U, zq_V, zq_W, zq_X, zq_Y, zq_Z, zq_0, zq_1, zq_2, zq_3, zq_4, zq_5, ↓zq_6, ↓zq_7, ↓zq_8, ↓zq_9, ↓zq_aa, zq_ab, zq_ac, zq_ad, zq_ae, zq_af, zq_ag, ↓zq_ah, ↓zq_ai, ↓zq_aj, zq_ak, ↓zq_al, ↓zq_am, e_b1, e_b2, x_o1, x_o2, q, q_n, k]
    · exact hend h x2 x3 x4 x5 x6 M hJ hr h0 q
theorem r_fs_0 : ∀ (m : Nat) (x1 x2 x3 x4 x5 x6 : Int) (M : EM), r_J M → (∀ l, 0 ≤ l → l < x1 → r_takH M 12 l) → (31 - x1).toNat ≤ m → 0 ≤ x1 → x1 ≤ 31 → ∃ M', E_V 243 2 [192, x1, x2, x3, x4, x5, x6] M = some (0, M') ∧ r_J M' ∧ a_fr r_wq M M' ∧ r_rdy M' (-1) := by
  have hend : ∀ x1 x2 x3 x4 x5 x6 M, r_J M → (∀ l, 0 ≤ l → l < x1 → r_takH M 12 l) → ¬ (x1 ≤ 30) → ∃ M', E_V 243 2 [192, x1, x2, x3, x4, x5, x6] M = some (0, M') ∧ r_J M' ∧ a_fr r_wq M M' ∧ r_rdy M' (-1) := by
    intro x1 x2 x3 x4 x5 x6 M hJ hr q
    obtain ⟨M', k, t⟩ := r_fs_h 12 11 x2 x3 x4 x5 x6 M hJ ⟨fun l l0 l1 => hr l l0 (by omega), fun k l k0 k1 => by omega⟩ (by decide) (by decide) (by decide)
    refine ⟨M', ?_, t⟩
    rw [E_V_eq]
    show e_tv E_C (E_V 243) e_t243_2 [192, x1, x2, x3, x4, x5, x6] M = _
    unfold e_t243_2
    simp [zq_a, zq_b, zq_c, zq_d, zq_e, zq_f, zq_g, zq_h, zq_i, zq_j, zq_k, zq_l, zq_m, zq_n, zq_o, zq_p, zq_q, zq_r, zq_s, zq_t, zq_u, zq_v, zq_w, zq_x, zq_y, zq_z, zq_A, zq_B, zq_C, zq_D, zq_E, zq_F, zq_G, zq_H, zq_I, zq_J, zq_K, zq_L, ↓zq_M, ↓zq_N, ↓zq_O, ↓zq_P, ↓zq_Q, ↓zq_R, zq_S, zq_T, zq_U, zq_V, zq_W, zq_X, zq_Y, zq_Z, zq_0, zq_1, zq_2, zq_3, zq_4, zq_5, ↓zq_6, ↓zq_7, ↓zq_8, ↓zq_9, ↓zq_aa, zq_ab, zq_ac, zq_ad, zq_ae, zq_af, zq_ag, ↓zq_ah, ↓zq_ai, ↓zq_aj, zq_ak, ↓zq_al, ↓zq_am, e_b1, e_b2, x_o1, x_o2, q, k]
  intro m
  induction m with
  | zero => intro x1 x2 x3 x4 x5 x6 M hJ hr hm h0 h1; exact hend x1 x2 x3 x4 x5 x6 M hJ hr (by omega)
  | succ m ih =>
    intro x1 x2 x3 x4 x5 x6 M hJ hr hm h0 h1
    rcases x_le x1 30 with ⟨q, q_n⟩ | ⟨q, q_n⟩
    · have w1 : e_w (372 + x1) = 372 + x1 := a_w_id (by omega) (by omega)
      have w2 : e_w (x1 + 1) = x1 + 1 := a_w_id (by omega) (by omega)
      have st := r_st10 (i := 372 + x1) (v := 0) (M := M) (by omega) (by omega)
      obtain ⟨u1, u2⟩ := r_u10 (M := M) (k := (372 + x1).toNat) (v := 0) (by omega) (by decide) hJ
      obtain ⟨M', k, t1, t2, t3⟩ := ih (x1 + 1) x2 x3 x4 x5 x6 _ u1 (fun l l0 l1 => by
        unfold r_takH
        by_cases hl : l = x1
        · subst hl
          rw [show 31 * 12 + l = 372 + l by omega, c_up_s]
          exact ⟨by decide, by decide⟩
        · rw [c_up_n (fun hc => by omega)]
          exact hr l l0 (by omega)) (by omega) (by omega) (by omega)
      refine ⟨M', ?_, t1, a_fr_tr u2 t2, t3⟩
      rw [E_V_eq]
      show e_tv E_C (E_V 243) e_t243_2 [192, x1, x2, x3, x4, x5, x6] M = _
      unfold e_t243_2
      simp [zq_a, zq_b, zq_c, zq_d, zq_e, zq_f, zq_g, zq_h, zq_i, zq_j, zq_k, zq_l, zq_m, zq_n, zq_o, zq_p, zq_q, zq_r, zq_s, zq_t, zq_u, zq_v, zq_w, zq_x, zq_y, zq_z, zq_A, zq_B, zq_C, zq_D, zq_E, zq_F, zq_G, zq_H, zq_I, zq_J, zq_K, zq_L, ↓zq_M, ↓zq_N, ↓zq_O, ↓zq_P, ↓zq_Q, ↓zq_R, zq_S, zq_T, zq_U, zq_V, zq_W, zq_X, zq_Y, zq_Z, zq_0, zq_1, zq_2, zq_3, zq_4, zq_5, ↓zq_6, ↓zq_7, ↓zq_8, ↓zq_9, ↓zq_aa, zq_ab, zq_ac, zq_ad, zq_ae, zq_af, zq_ag, ↓zq_ah, ↓zq_ai, ↓zq_aj, zq_ak, ↓zq_al, ↓zq_am, e_b1, e_b2, x_o1, x_o2, r_O37, q, q_n, w1, w2, st, k]
    · exact hend x1 x2 x3 x4 x5 x6 M hJ hr q
theorem r_findSales {M : EM} (hJ : r_J M) : ∃ M', E_C 243 [192] M = some (0, M') ∧ r_J M' ∧ a_fr r_wq M M' ∧ r_rdy M' (-1) := by
  obtain ⟨M', k, t⟩ := r_fs_0 31 0 0 0 0 0 0 M hJ (fun l l0 l1 => by omega) (by decide) (by decide) (by decide)
  refine ⟨M', ?_, t⟩
  rw [r_ent (show e_rok 243 [192] = true from decide_eq_true r_ref)]
  show e_tv E_C (E_V 243) e_t243_0 [192, 0, 0, 0, 0, 0, 0] M = _
  unfold e_t243_0
  simp [zq_a, zq_b, zq_c, zq_d, zq_e, zq_f, zq_g, zq_h, zq_i, zq_j, zq_k, zq_l, zq_m, zq_n, zq_o, zq_p, zq_q, zq_r, zq_s, zq_t, zq_u, zq_v, zq_w, zq_x, zq_y, zq_z, zq_A, zq_B, zq_C, zq_D, zq_E, zq_F, zq_G, zq_H, zq_I, zq_J, zq_K, zq_L, ↓zq_M, ↓zq_N, ↓zq_O, ↓zq_P, ↓zq_Q, ↓zq_R, zq_S, zq_T, zq_U, zq_V, zq_W, zq_X, zq_Y, zq_Z, zq_0, zq_1, zq_2, zq_3, zq_4, zq_5, ↓zq_6, ↓zq_7, ↓zq_8, ↓zq_9, ↓zq_aa, zq_ab, zq_ac, zq_ad, zq_ae, zq_af, zq_ag, ↓zq_ah, ↓zq_ai, ↓zq_aj, zq_ak, ↓zq_al, ↓zq_am, e_b1, e_b2, x_o1, x_o2, k]
theorem r_sells_loop {h : Int} {M : EM} (hh : 0 ≤ h ∧ h < 12) (hJ : r_J M) (hr : r_rdy M (-1)) : ∀ (m : Nat) (x2 x3 : Int), (h - x3).toNat ≤ m → 0 ≤ x3 → x3 ≤ h → 0 ≤ x2 → x2 ≤ r_G M 1199 → ∃ r, E_V 244 35 [192, h, x2, x3] M = some (r, M) := by
  have hz := r_Zof hJ
  obtain ⟨z1, z2, z3, -⟩ := hz
  have hend : ∀ x2 x3, ¬ (x3 < h) → 0 ≤ x2 → x2 ≤ r_G M 1199 → ∃ r, E_V 244 35 [192, h, x2, x3] M = some (r, M) := by
    intro x2 x3 q h2 h3
    have w1 : e_w (31 * h) = 31 * h := a_w_id (by omega) (by omega)
    have w2 : e_w (31 * h + x2) = 31 * h + x2 := a_w_id (by omega) (by omega)
    have l1 := r_ld11 (i := 31 * h + x2) (M := M) (by omega) (by omega)
    refine ⟨M 211 (31 * h + x2).toNat, ?_⟩
    rw [E_V_eq]
    show e_tv E_C (E_V 244) e_t244_35 [192, h, x2, x3] M = _
    unfold e_t244_35
    simp [zq_a, zq_b, zq_c, zq_d, zq_e, zq_f, zq_g, zq_h, zq_i, zq_j, zq_k, zq_l, zq_m, zq_n, zq_o, zq_p, zq_q, zq_r, zq_s, zq_t, zq_u, zq_v, zq_w, zq_x, zq_y, zq_z, zq_A, zq_B, zq_C, zq_D, zq_E, zq_F, zq_G, zq_H, zq_I, zq_J, zq_K, zq_L, ↓zq_M, ↓zq_N, ↓zq_O, ↓zq_P, ↓zq_Q, ↓zq_R, zq_S, zq_T, zq_U, zq_V, zq_W, zq_X, zq_Y, zq_Z, zq_0, zq_1, zq_2, zq_3, zq_4, zq_5, ↓zq_6, ↓zq_7, ↓zq_8, ↓zq_9, ↓zq_aa, zq_ab, zq_ac, zq_ad, zq_ae, zq_af, zq_ag, ↓zq_ah, ↓zq_ai, ↓zq_aj, zq_ak, ↓zq_al, ↓zq_am, e_b1, e_b2, x_o1, x_o2, r_O38, q, w1, w2, l1]
  intro m
  induction m with
  | zero => intro x2 x3 hm h0 h1 h2 h3; exact hend x2 x3 (by omega) h2 h3
  | succ m ih =>
    intro x2 x3 hm h0 h1 h2 h3
    rcases x_lt x3 h with ⟨q, q_n⟩ | ⟨q, q_n⟩
    · have w1 : e_w (31 * x3) = 31 * x3 := a_w_id (by omega) (by omega)
      have w2 : e_w (31 * x3 + x2) = 31 * x3 + x2 := a_w_id (by omega) (by omega)
      have w3 : e_w (2 * x3) = 2 * x3 := a_w_id (by omega) (by omega)
      have w4 : e_w (1174 + 2 * x3) = 1174 + 2 * x3 := a_w_id (by omega) (by omega)
      have w5 : e_w (x3 + 1) = x3 + 1 := a_w_id (by omega) (by omega)
      have l1 := r_ld11 (i := 31 * x3 + x2) (M := M) (by omega) (by omega)
      have l2 : e_op 60 [193, 1174 + 2 * x3] M = some (r_G M (1174 + 2 * x3)) := r_rd (by omega) (by omega)
      obtain ⟨s1, s2⟩ := (hr.2 x3 x2 (by omega) (by omega) h2 h3).2
      have hs := z3 x3 h0 (by omega)
      have w6 : e_w (r_G M (1174 + 2 * x3) - M 211 (31 * x3 + x2).toNat) = r_G M (1174 + 2 * x3) - M 211 (31 * x3 + x2).toNat := a_w_id (by omega) (by omega)
      have w7 : e_w (x2 + (r_G M (1174 + 2 * x3) - M 211 (31 * x3 + x2).toNat)) = x2 + (r_G M (1174 + 2 * x3) - M 211 (31 * x3 + x2).toNat) := a_w_id (by omega) (by omega)
      obtain ⟨r, k⟩ := ih (x2 + (r_G M (1174 + 2 * x3) - M 211 (31 * x3 + x2).toNat)) (x3 + 1) (by omega) (by omega) (by omega) (by omega) (by omega)
      refine ⟨r, ?_⟩
      rw [E_V_eq]
      show e_tv E_C (E_V 244) e_t244_35 [192, h, x2, x3] M = _
      unfold e_t244_35
      simp [zq_a, zq_b, zq_c, zq_d, zq_e, zq_f, zq_g, zq_h, zq_i, zq_j, zq_k, zq_l, zq_m, zq_n, zq_o, zq_p, zq_q, zq_r, zq_s, zq_t, zq_u, zq_v, zq_w, zq_x, zq_y, zq_z, zq_A, zq_B, zq_C, zq_D, zq_E, zq_F, zq_G, zq_H, zq_I, zq_J, zq_K, zq_L, ↓zq_M, ↓zq_N, ↓zq_O, ↓zq_P, ↓zq_Q, ↓zq_R, zq_S, zq_T, zq_U, zq_V, zq_W, zq_X, zq_Y, zq_Z, zq_0, zq_1, zq_2, zq_3, zq_4, zq_5, ↓zq_6, ↓zq_7, ↓zq_8, ↓zq_9, ↓zq_aa, zq_ab, zq_ac, zq_ad, zq_ae, zq_af, zq_ag, ↓zq_ah, ↓zq_ai, ↓zq_aj, zq_ak, ↓zq_al, ↓zq_am, e_b1, e_b2, x_o1, x_o2, r_O0, r_O38, q, q_n, w1, w2, w3, w4, w5, w6, w7, l1, l2, k]
    · exact hend x2 x3 q h2 h3
theorem r_sells {h : Int} {M : EM} (hJ : r_J M) : r_Q 244 [192, h] M := by
  by_cases q0 : -1 ≤ h ∧ h ≤ 11
  · have i0 := r_in1 (M := M) q0
    obtain ⟨M1, k1, t1, t2, t3⟩ := r_findSales hJ
    rcases x_lt h 0 with ⟨q1, q1_n⟩ | ⟨q1, q1_n⟩
    · have l1 := r_ld10 (i := 0) (M := M1) (by decide) (by decide)
      refine ⟨M1 210 0, M1, ?_, t1.1, t2, t1.2.2.2.2⟩
      rw [r_ent (show e_rok 244 [192, h] = true from decide_eq_true r_ref)]
      show e_tv E_C (E_V 244) e_t244_0 [192, h, 0, 0] M = _
      unfold e_t244_0
      simp [zq_a, zq_b, zq_c, zq_d, zq_e, zq_f, zq_g, zq_h, zq_i, zq_j, zq_k, zq_l, zq_m, zq_n, zq_o, zq_p, zq_q, zq_r, zq_s, zq_t, zq_u, zq_v, zq_w, zq_x, zq_y, zq_z, zq_A, zq_B, zq_C, zq_D, zq_E, zq_F, zq_G, zq_H, zq_I, zq_J, zq_K, zq_L, ↓zq_M, ↓zq_N, ↓zq_O, ↓zq_P, ↓zq_Q, ↓zq_R, zq_S, zq_T, zq_U, zq_V, zq_W, zq_X, zq_Y, zq_Z, zq_0, zq_1, zq_2, zq_3, zq_4, zq_5, ↓zq_6, ↓zq_7, ↓zq_8, ↓zq_9, ↓zq_aa, zq_ab, zq_ac, zq_ad, zq_ae, zq_af, zq_ag, ↓zq_ah, ↓zq_ai, ↓zq_aj, zq_ak, ↓zq_al, ↓zq_am, e_b1, e_b2, x_o1, x_o2, r_O37, i0, k1, q1, q1_n, l1]
    · obtain ⟨r, k⟩ := r_sells_loop (h := h) ⟨by omega, by omega⟩ t1 t3 _ 0 0 (Nat.le_refl _) (by decide) (by omega) (by decide) (r_Zof t1).1
      refine ⟨r, M1, ?_, t1.1, t2, t1.2.2.2.2⟩
      rw [r_ent (show e_rok 244 [192, h] = true from decide_eq_true r_ref)]
      show e_tv E_C (E_V 244) e_t244_0 [192, h, 0, 0] M = _
      unfold e_t244_0
      simp [zq_a, zq_b, zq_c, zq_d, zq_e, zq_f, zq_g, zq_h, zq_i, zq_j, zq_k, zq_l, zq_m, zq_n, zq_o, zq_p, zq_q, zq_r, zq_s, zq_t, zq_u, zq_v, zq_w, zq_x, zq_y, zq_z, zq_A, zq_B, zq_C, zq_D, zq_E, zq_F, zq_G, zq_H, zq_I, zq_J, zq_K, zq_L, ↓zq_M, ↓zq_N, ↓zq_O, ↓zq_P, ↓zq_Q, ↓zq_R, zq_S, zq_T, zq_U, zq_V, zq_W, zq_X, zq_Y, zq_Z, zq_0, zq_1, zq_2, zq_3, zq_4, zq_5, ↓zq_6, ↓zq_7, ↓zq_8, ↓zq_9, ↓zq_aa, zq_ab, zq_ac, zq_ad, zq_ae, zq_af, zq_ag, ↓zq_ah, ↓zq_ai, ↓zq_aj, zq_ak, ↓zq_al, ↓zq_am, e_b1, e_b2, x_o1, x_o2, i0, k1, q1, q1_n, k]
  · have i0 := r_in0 (M := M) q0
    refine r_same (r := -1) hJ ?_
    rw [r_ent (show e_rok 244 [192, h] = true from decide_eq_true r_ref)]
    show e_tv E_C (E_V 244) e_t244_0 [192, h, 0, 0] M = _
    unfold e_t244_0
    simp [zq_a, zq_b, zq_c, zq_d, zq_e, zq_f, zq_g, zq_h, zq_i, zq_j, zq_k, zq_l, zq_m, zq_n, zq_o, zq_p, zq_q, zq_r, zq_s, zq_t, zq_u, zq_v, zq_w, zq_x, zq_y, zq_z, zq_A, zq_B, zq_C, zq_D, zq_E, zq_F, zq_G, zq_H, zq_I, zq_J, zq_K, zq_L, ↓zq_M, ↓zq_N, ↓zq_O, ↓zq_P, ↓zq_Q, ↓zq_R, zq_S, zq_T, zq_U, zq_V, zq_W, zq_X, zq_Y, zq_Z, zq_0, zq_1, zq_2, zq_3, zq_4, zq_5, ↓zq_6, ↓zq_7, ↓zq_8, ↓zq_9, ↓zq_aa, zq_ab, zq_ac, zq_ad, zq_ae, zq_af, zq_ag, ↓zq_ah, ↓zq_ai, ↓zq_aj, zq_ak, ↓zq_al, ↓zq_am, e_b1, e_b2, x_o1, x_o2, i0]
