theorem r_seek {p n : Int} {M : EM} (hJ : r_J M) : r_T r_wBx 216 [192, p, n] M := by
  have hE := r_J_E hJ
  have hW := hE.2.1
  by_cases q0 : 0 ≤ p ∧ p < r_G M 1198
  · have ip := r_ip1 hW q0
    have h40 := r_40 hW q0
    have kk : E_C 170 [192, p] M = some (r_G M (28 * p), M) := r_kind h40
    by_cases q1 : 1 ≤ n ∧ n ≤ 100
    · have i1 := r_in1 (M := M) q1
      by_cases q2 : r_G M (28 * p) = 3
      · have hu : 0 ≤ r_G M (28 * p + 4) := by
          rcases r_pt_of hW q0 with h | h | h | h
          · have := h.2.2.1; omega
          · have := h.2.2.1; omega
          · have := h.2.2.1; omega
          · exact h.2.2.2.1.2
        have w1 : e_w (28 * p) = 28 * p := a_w_id (by omega) (by omega)
        have w2 : e_w (28 * p + 4) = 28 * p + 4 := a_w_id (by omega) (by omega)
        have w3 : e_w (28 * p + 4 + 2) = 28 * p + 4 + 2 := a_w_id (by omega) (by omega)
        have w4 : e_w (28 * p + 4 + 3) = 28 * p + 4 + 3 := a_w_id (by omega) (by omega)
        have w5 : e_w (28 * p + 4 + 4) = 28 * p + 4 + 4 := a_w_id (by omega) (by omega)
        obtain ⟨M1, k1, e1⟩ := r_gives hE hW.2.1 (r_pt_of hW q0)
        have J1 := r_ev_J hJ e1
        have hg1 := r_ev_G e1
        have gf : ∀ (M : EM) (k : Nat) (v : Int), r_G (e_up M 192 k v) = r_G M := fun M k v => r_up_Gne (by decide)
        have l0 := fun M => r_rd (i := 28 * p + 4) (M := M) (by omega) (by omega)
        have l2 := fun M => r_rd (i := 28 * p + 4 + 2) (M := M) (by omega) (by omega)
        have l3 := fun M => r_rd (i := 28 * p + 4 + 3) (M := M) (by omega) (by omega)
        have l4 := fun M => r_rd (i := 28 * p + 4 + 4) (M := M) (by omega) (by omega)
        obtain ⟨b, hb⟩ : ∃ b : Int, b = if r_G M (28 * p + 4 + 3) = 1 then 1 else 0 := ⟨_, rfl⟩
        have hb1 : -2147483648 ≤ b ∧ b ≤ 2147483647 := by
          rw [hb]
          by_cases c : r_G M (28 * p + 4 + 3) = 1
          · rw [if_pos c]; decide
          · rw [if_neg c]; decide
        obtain ⟨u1, v1⟩ := r_qfld (k := 27) (v := r_G M (28 * p + 4)) (by decide) (by decide) (r_gr hJ.1 _) J1
        obtain ⟨u2, v2⟩ := r_qfld (k := 28) (v := r_G M (28 * p + 4 + 2)) (by decide) (by decide) (r_gr hJ.1 _) u1
        obtain ⟨u3, v3⟩ := r_qfld (k := 30) (v := b) (by decide) (by decide) hb1 u2
        obtain ⟨u4, v4⟩ := r_qfld (k := 29) (v := r_G M (28 * p + 4 + 4)) (by decide) (by decide) (r_gr hJ.1 _) u3
        have hf := a_fr_tr (r_evq e1) (a_fr_tr v1 (a_fr_tr v2 (a_fr_tr v3 v4)))
        obtain ⟨r, M', k, t1, t2⟩ := r_seek_loop (n := n) h40 (g := r_G M) q2 _ 0 _ u4 ((r_q_G hf).trans rfl) (by rw [r_ff (by decide), r_ff (by decide), r_ff (by decide), c_up_s]; exact hu) (Nat.le_refl _) (by decide) (by decide) (by omega)
        refine ⟨r, M', ?_, t1, a_fr_tr (c_sub_r hf) t2⟩
        rw [r_ent (show e_rok 216 [192, p, n] = true from decide_eq_true r_ref)]
        show e_tv E_C (E_V 216) e_t216_0 [192, p, n, 0, 0] M = _
        unfold e_t216_0
        by_cases c : r_G M (28 * p + 4 + 3) = 1
        · rw [if_pos c] at hb
          subst hb
          simp [e_tv, e_ev, e_sv, e_b1, e_b2, x_o1, x_o2, r_F9, r_F10, r_F13, r_F14, r_F15, r_F16, r_F17, r_F18, r_F20, r_F21, r_F22, r_F23, r_F24, r_F27, r_F28, r_F29, r_F30, r_F33, r_F34, r_F35, r_P9, r_P10, r_P13, r_P14, r_P15, r_P16, r_P17, r_P18, r_P20, r_P21, r_P22, r_P23, r_P24, r_P27, r_P28, r_P29, r_P30, r_P33, r_P34, r_P35, r_O0, r_O1, r_O2, r_O3, r_O4, r_O5, r_O6, r_O7, r_O8, r_O11, r_O12, r_O19, r_O25, r_O26, r_O31, r_O32, r_O36, r_O37, r_O38, r_O39, ip, i1, kk, q2, w1, w2, w3, w4, w5, k1, l0, l2, l3, l4, gf, hg1, c, k]
        · rw [if_neg c] at hb
          subst hb
          simp [e_tv, e_ev, e_sv, e_b1, e_b2, x_o1, x_o2, r_F9, r_F10, r_F13, r_F14, r_F15, r_F16, r_F17, r_F18, r_F20, r_F21, r_F22, r_F23, r_F24, r_F27, r_F28, r_F29, r_F30, r_F33, r_F34, r_F35, r_P9, r_P10, r_P13, r_P14, r_P15, r_P16, r_P17, r_P18, r_P20, r_P21, r_P22, r_P23, r_P24, r_P27, r_P28, r_P29, r_P30, r_P33, r_P34, r_P35, r_O0, r_O1, r_O2, r_O3, r_O4, r_O5, r_O6, r_O7, r_O8, r_O11, r_O12, r_O19, r_O25, r_O26, r_O31, r_O32, r_O36, r_O37, r_O38, r_O39, ip, i1, kk, q2, w1, w2, w3, w4, w5, k1, l0, l2, l3, l4, gf, hg1, c, k]
      · refine r_Ts (r := -3) hJ ?_
        rw [r_ent (show e_rok 216 [192, p, n] = true from decide_eq_true r_ref)]
        show e_tv E_C (E_V 216) e_t216_0 [192, p, n, 0, 0] M = _
        unfold e_t216_0
        simp [e_tv, e_ev, e_sv, e_b1, e_b2, x_o1, x_o2, ip, i1, kk, q2]
    · have i1 := r_in0 (M := M) q1
      refine r_Ts (r := -1) hJ ?_
      rw [r_ent (show e_rok 216 [192, p, n] = true from decide_eq_true r_ref)]
      show e_tv E_C (E_V 216) e_t216_0 [192, p, n, 0, 0] M = _
      unfold e_t216_0
      simp [e_tv, e_ev, e_sv, e_b1, e_b2, x_o1, x_o2, ip, i1]
  · have ip := r_ip0 hW q0
    refine r_Ts (r := -1) hJ ?_
    rw [r_ent (show e_rok 216 [192, p, n] = true from decide_eq_true r_ref)]
    show e_tv E_C (E_V 216) e_t216_0 [192, p, n, 0, 0] M = _
    unfold e_t216_0
    simp [e_tv, e_ev, e_sv, e_b1, e_b2, x_o1, x_o2, ip]
theorem r_led_loop {p u n x4 x5 : Int} (hn : n ≤ 1000) : ∀ (m : Nat) (x6 : Int) (M : EM), r_J M → 0 ≤ M 192 27 → (n + 1 - x6).toNat ≤ m → 0 ≤ x6 → x6 ≤ 1001 → ∃ r M', E_V 217 88 [192, p, u, n, x4, x5, x6] M = some (r, M') ∧ r_J M' ∧ a_fr r_wq M M' := by
  have hend : ∀ x6 M, r_J M → ¬ (x6 ≤ n) → ∃ r M', E_V 217 88 [192, p, u, n, x4, x5, x6] M = some (r, M') ∧ r_J M' ∧ a_fr r_wq M M' := by
    intro x6 M hJ q
    refine ⟨-4, M, ?_, hJ, a_fr_rf⟩
    rw [E_V_eq]
    show e_tv E_C (E_V 217) e_t217_88 [192, p, u, n, x4, x5, x6] M = _
    unfold e_t217_88
    simp [e_tv, e_ev, e_sv, e_b1, e_b2, x_o1, x_o2, q]
  intro m
  induction m with
  | zero => intro x6 M hJ hu hm h0 h1; exact hend x6 M hJ (by omega)
  | succ m ih =>
    intro x6 M hJ hu hm h0 h1
    rcases x_le x6 n with ⟨q, q_n⟩ | ⟨q, q_n⟩
    · have w5 : e_w (x6 + 1) = x6 + 1 := a_w_id (by omega) (by omega)
      obtain ⟨M1, k1, t1, t2, t3⟩ := r_step (b := x4) hJ hu
      obtain ⟨r, M', k, u1, u2⟩ := ih (x6 + 1) M1 t1 t3 (by omega) (by omega) (by omega)
      rcases x_le (e_w (M 192 27 - x5)) x4 with ⟨c1, c1_n⟩ | ⟨c1, c1_n⟩
      · rcases x_le (e_w (x5 - M 192 27)) x4 with ⟨c2, c2_n⟩ | ⟨c2, c2_n⟩
        · refine ⟨x6, M, ?_, hJ, a_fr_rf⟩
          rw [E_V_eq]
          show e_tv E_C (E_V 217) e_t217_88 [192, p, u, n, x4, x5, x6] M = _
          unfold e_t217_88
          simp [e_tv, e_ev, e_sv, e_b1, e_b2, x_o1, x_o2, r_F9, r_F10, r_F13, r_F14, r_F15, r_F16, r_F17, r_F18, r_F20, r_F21, r_F22, r_F23, r_F24, r_F27, r_F28, r_F29, r_F30, r_F33, r_F34, r_F35, r_P9, r_P10, r_P13, r_P14, r_P15, r_P16, r_P17, r_P18, r_P20, r_P21, r_P22, r_P23, r_P24, r_P27, r_P28, r_P29, r_P30, r_P33, r_P34, r_P35, r_O0, r_O1, r_O2, r_O3, r_O4, r_O5, r_O6, r_O7, r_O8, r_O11, r_O12, r_O19, r_O25, r_O26, r_O31, r_O32, r_O36, r_O37, r_O38, r_O39, q, q_n, c1, c1_n, c2, c2_n]
        · refine ⟨r, M', ?_, u1, a_fr_tr t2 u2⟩
          rw [E_V_eq]
          show e_tv E_C (E_V 217) e_t217_88 [192, p, u, n, x4, x5, x6] M = _
          unfold e_t217_88
          simp [e_tv, e_ev, e_sv, e_b1, e_b2, x_o1, x_o2, r_F9, r_F10, r_F13, r_F14, r_F15, r_F16, r_F17, r_F18, r_F20, r_F21, r_F22, r_F23, r_F24, r_F27, r_F28, r_F29, r_F30, r_F33, r_F34, r_F35, r_P9, r_P10, r_P13, r_P14, r_P15, r_P16, r_P17, r_P18, r_P20, r_P21, r_P22, r_P23, r_P24, r_P27, r_P28, r_P29, r_P30, r_P33, r_P34, r_P35, r_O0, r_O1, r_O2, r_O3, r_O4, r_O5, r_O6, r_O7, r_O8, r_O11, r_O12, r_O19, r_O25, r_O26, r_O31, r_O32, r_O36, r_O37, r_O38, r_O39, q, q_n, c1, c1_n, c2, c2_n, k1, w5, k]
      · refine ⟨r, M', ?_, u1, a_fr_tr t2 u2⟩
        rw [E_V_eq]
        show e_tv E_C (E_V 217) e_t217_88 [192, p, u, n, x4, x5, x6] M = _
        unfold e_t217_88
        simp [e_tv, e_ev, e_sv, e_b1, e_b2, x_o1, x_o2, r_F9, r_F10, r_F13, r_F14, r_F15, r_F16, r_F17, r_F18, r_F20, r_F21, r_F22, r_F23, r_F24, r_F27, r_F28, r_F29, r_F30, r_F33, r_F34, r_F35, r_P9, r_P10, r_P13, r_P14, r_P15, r_P16, r_P17, r_P18, r_P20, r_P21, r_P22, r_P23, r_P24, r_P27, r_P28, r_P29, r_P30, r_P33, r_P34, r_P35, r_O0, r_O1, r_O2, r_O3, r_O4, r_O5, r_O6, r_O7, r_O8, r_O11, r_O12, r_O19, r_O25, r_O26, r_O31, r_O32, r_O36, r_O37, r_O38, r_O39, q, q_n, c1, c1_n, k1, w5, k]
    · exact hend x6 M hJ q
