section
/-! BEST, CURRENT of a PART asked: the two answers -/
theorem ax_bench (M : EM) : e_gf 709 [8] M = some 170 := p_g 709 8 170 M (by decide +kernel)
def ax_S (g : Int → Int) (p u : Int) : Int := bx_s g (hd_SH g) (hd_WM g) (hd_DI g) (cu_ln g (cu_in g p)) (cu_nl g (cu_in g p)) u
def ax_B (g : Int → Int) (p : Int) : Nat := cu_b (fun u => ax_S g p (u : Int)) 500
theorem ax_B_le {g : Int → Int} {p : Int} : ax_B g p ≤ 500 := cu_b_le _
/-- the class: a PART spread out and its BEST found -/
theorem ax_fb {M : EM} {p : Nat} (h : hd_all M) (hp : (p : Int) < r_G M 1198) : ∃ N M', E_C 1 [170, (p : Int)] M = some (0, N) ∧ E_C 21 [170] N = some (0, M') ∧ M' 170 6 = 0 ∧ (∀ u : Nat, u ≤ 500 → M' 181 u = ax_S (r_G M) (p : Int) (u : Int)) ∧ M' 170 2 = (ax_B (r_G M) (p : Int) : Int) ∧ M' 170 1 = (ax_B (r_G M) (p : Int) : Int) * ax_S (r_G M) (p : Int) (ax_B (r_G M) (p : Int) : Int) ∧ (∀ id, id < 162 → M' id = M id) ∧ M' 171 0 = 0 ∧ (0 ≤ ax_S (r_G M) (p : Int) (ax_B (r_G M) (p : Int) : Int) ∧ ax_S (r_G M) (p : Int) (ax_B (r_G M) (p : Int) : Int) ≤ 600) := by
  obtain ⟨N, k, hX, hS, hN, h7, e, h0⟩ := ax_1 h hp
  obtain ⟨hB, hC, hD, h171⟩ := h
  obtain ⟨M', m, m6, ms, m2, m1, mf⟩ := bx_21 hB.2.1.2 hD e (hd_bd hC) hX hN
  exact ⟨N, M', k, m, m6, ms, m2, m1, fun id hid => funext fun k => (mf _ _ (by omega) (by omega)).trans (congrFun (e id hid) k), (mf _ _ (by omega) (by omega)).trans h0, bx_s_bd hX.1.2⟩
/-- the reference: what a PART gives -/
theorem ax_gives {M1 : EM} {g : Int → Int} {p : Nat} (hG : r_G M1 = g) (J1 : r_J M1) (K1 : rx_K M1) (hcs : hd_cs g) (hcv : hd_cvs g) (hp : (p : Int) < g 1198) : ∃ M', E_C 203 [192, (p : Int)] M1 = some (0, M') ∧ rx_sm M1 M' ∧ ∀ u, u < 1000 → M' 205 u = ax_S g (p : Int) (u : Int) := by
  have hW := (r_J_E J1).2.1
  rw [hG] at hW
  exact rx_gives hG (rx_MD0 hG K1 J1.2.2.2.2 hcs) hcv (b := g 1198) hW.2.1 (Int.le_refl _) (hW.2.2.1 p (by omega) hp)
section AXB
variable {M M1 M2 : EM} {p w r1 r2 : Int}
theorem ax_111s : E_C 111 [8, p, w] M = e_tv E_C (E_V 111) e_t111_0 [8, p, w] M := r_ent (u := 111) (as := [8, p, w]) (M := M) (decide_eq_true c_this)
/-- best, by the class -/
theorem ax_111 (h : hd_all M) : ∃ r M', E_C 111 [8, p, w] M = some (r, M') ∧ M' 171 0 = 0 ∧ r = if (0 ≤ p ∧ p < r_G M 1198) ∧ 0 ≤ w ∧ w ≤ 2 then (if w = 0 then (ax_B (r_G M) p : Int) * ax_S (r_G M) p (ax_B (r_G M) p : Int) else if w = 1 then (ax_B (r_G M) p : Int) else ax_S (r_G M) p (ax_B (r_G M) p : Int)) else -1 := by
  have h10 : M 10 0 = r_G M 1198 := h.1.1
  have i := h_149 (k := p) (M := M)
  rw [h10] at i
  rw [ax_111s]
  unfold e_t111_0
  by_cases c : 0 ≤ p ∧ p < r_G M 1198
  · rw [if_pos c] at i
    rcases x_le 0 w with ⟨c0, c0_n⟩ | ⟨c0, c0_n⟩
    · rcases x_lt 2 w with ⟨c2, c2_n⟩ | ⟨c2, c2_n⟩
      · refine ⟨-1, M, ?_, h.2.2.2, (if_neg (fun e => by omega)).symm⟩
        simp [zq_a, zq_b, zq_c, zq_d, zq_e, zq_f, zq_g, zq_h, zq_i, zq_j, zq_k, zq_l, zq_m, zq_n, zq_o, zq_p, zq_q, zq_r, zq_s, zq_t, zq_u, zq_v, zq_w, zq_x, zq_y, zq_z, zq_A, zq_B, zq_C, zq_D, zq_E, zq_F, zq_G, zq_H, zq_I, zq_J, zq_K, zq_L, ↓zq_M, ↓zq_N, ↓zq_O, ↓zq_P, ↓zq_Q, ↓zq_R, zq_S, zq_T, zq_U, zq_V, zq_W, zq_X, zq_Y, zq_Z, zq_0, zq_1, zq_2, zq_3, zq_4, zq_5, ↓zq_6, ↓zq_7, ↓zq_8, ↓zq_9, ↓zq_aa, zq_ab, zq_ac, zq_ad, zq_ae, zq_af, zq_ag, ↓zq_ah, ↓zq_ai, ↓zq_aj, zq_ak, ↓zq_al, ↓zq_am, e_b1, e_b2, x_o1, x_o2, i, c0, c0_n, c2, c2_n]
      · obtain ⟨q, rfl⟩ : ∃ q : Nat, p = q := ⟨p.toNat, by omega⟩
        obtain ⟨N, M', k, m, m6, ms, m2, m1, -, m0, mb⟩ := ax_fb h c.2
        rw [if_pos ⟨c, c0, by omega⟩]
        have bl := ax_B_le (g := r_G M) (p := (q : Int))
        have ca := bx_19 (M := M') (u := (ax_B (r_G M) (q : Int) : Int)) (lo := 0) (k := ax_B (r_G M) (q : Int)) m6 (by decide) (by omega) (by omega)
        rw [ms _ bl] at ca
        clear ms mb
        revert ca m1 m2
        generalize ax_S (r_G M) (q : Int) (ax_B (r_G M) (q : Int) : Int) = z
        generalize (ax_B (r_G M) (q : Int) : Int) = b
        intro m2 m1 ca
        by_cases w0 : w = 0
        · subst w0
          refine ⟨b * z, M', ?_, m0, (if_pos rfl).symm⟩
          simp [zq_a, zq_b, zq_c, zq_d, zq_e, zq_f, zq_g, zq_h, zq_i, zq_j, zq_k, zq_l, zq_m, zq_n, zq_o, zq_p, zq_q, zq_r, zq_s, zq_t, zq_u, zq_v, zq_w, zq_x, zq_y, zq_z, zq_A, zq_B, zq_C, zq_D, zq_E, zq_F, zq_G, zq_H, zq_I, zq_J, zq_K, zq_L, ↓zq_M, ↓zq_N, ↓zq_O, ↓zq_P, ↓zq_Q, ↓zq_R, zq_S, zq_T, zq_U, zq_V, zq_W, zq_X, zq_Y, zq_Z, zq_0, zq_1, zq_2, zq_3, zq_4, zq_5, ↓zq_6, ↓zq_7, ↓zq_8, ↓zq_9, ↓zq_aa, zq_ab, zq_ac, zq_ad, zq_ae, zq_af, zq_ag, ↓zq_ah, ↓zq_ai, ↓zq_aj, zq_ak, ↓zq_al, ↓zq_am, e_b1, e_b2, x_o1, x_o2, ax_bench, i, k, m, bx_F1, m1]
        · by_cases w1 : w = 1
          · subst w1
            refine ⟨b, M', ?_, m0, by rw [if_neg (by decide), if_pos rfl]⟩
            simp [zq_a, zq_b, zq_c, zq_d, zq_e, zq_f, zq_g, zq_h, zq_i, zq_j, zq_k, zq_l, zq_m, zq_n, zq_o, zq_p, zq_q, zq_r, zq_s, zq_t, zq_u, zq_v, zq_w, zq_x, zq_y, zq_z, zq_A, zq_B, zq_C, zq_D, zq_E, zq_F, zq_G, zq_H, zq_I, zq_J, zq_K, zq_L, ↓zq_M, ↓zq_N, ↓zq_O, ↓zq_P, ↓zq_Q, ↓zq_R, zq_S, zq_T, zq_U, zq_V, zq_W, zq_X, zq_Y, zq_Z, zq_0, zq_1, zq_2, zq_3, zq_4, zq_5, ↓zq_6, ↓zq_7, ↓zq_8, ↓zq_9, ↓zq_aa, zq_ab, zq_ac, zq_ad, zq_ae, zq_af, zq_ag, ↓zq_ah, ↓zq_ai, ↓zq_aj, zq_ak, ↓zq_al, ↓zq_am, e_b1, e_b2, x_o1, x_o2, ax_bench, i, k, m, bx_F2, m2]
          · have e : w = 2 := by omega
            subst e
            refine ⟨z, M', ?_, m0, by rw [if_neg (by decide), if_neg (by decide)]⟩
            simp [zq_a, zq_b, zq_c, zq_d, zq_e, zq_f, zq_g, zq_h, zq_i, zq_j, zq_k, zq_l, zq_m, zq_n, zq_o, zq_p, zq_q, zq_r, zq_s, zq_t, zq_u, zq_v, zq_w, zq_x, zq_y, zq_z, zq_A, zq_B, zq_C, zq_D, zq_E, zq_F, zq_G, zq_H, zq_I, zq_J, zq_K, zq_L, ↓zq_M, ↓zq_N, ↓zq_O, ↓zq_P, ↓zq_Q, ↓zq_R, zq_S, zq_T, zq_U, zq_V, zq_W, zq_X, zq_Y, zq_Z, zq_0, zq_1, zq_2, zq_3, zq_4, zq_5, ↓zq_6, ↓zq_7, ↓zq_8, ↓zq_9, ↓zq_aa, zq_ab, zq_ac, zq_ad, zq_ae, zq_af, zq_ag, ↓zq_ah, ↓zq_ai, ↓zq_aj, zq_ak, ↓zq_al, ↓zq_am, e_b1, e_b2, x_o1, x_o2, ax_bench, i, k, m, bx_F2, m2, ca]
    · refine ⟨-1, M, ?_, h.2.2.2, (if_neg (fun e => by omega)).symm⟩
      simp [zq_a, zq_b, zq_c, zq_d, zq_e, zq_f, zq_g, zq_h, zq_i, zq_j, zq_k, zq_l, zq_m, zq_n, zq_o, zq_p, zq_q, zq_r, zq_s, zq_t, zq_u, zq_v, zq_w, zq_x, zq_y, zq_z, zq_A, zq_B, zq_C, zq_D, zq_E, zq_F, zq_G, zq_H, zq_I, zq_J, zq_K, zq_L, ↓zq_M, ↓zq_N, ↓zq_O, ↓zq_P, ↓zq_Q, ↓zq_R, zq_S, zq_T, zq_U, zq_V, zq_W, zq_X, zq_Y, zq_Z, zq_0, zq_1, zq_2, zq_3, zq_4, zq_5, ↓zq_6, ↓zq_7, ↓zq_8, ↓zq_9, ↓zq_aa, zq_ab, zq_ac, zq_ad, zq_ae, zq_af, zq_ag, ↓zq_ah, ↓zq_ai, ↓zq_aj, zq_ak, ↓zq_al, ↓zq_am, e_b1, e_b2, x_o1, x_o2, i, c0, c0_n]
  · rw [if_neg c] at i
    refine ⟨-1, M, ?_, h.2.2.2, (if_neg (fun e => c e.1)).symm⟩
    simp [zq_a, zq_b, zq_c, zq_d, zq_e, zq_f, zq_g, zq_h, zq_i, zq_j, zq_k, zq_l, zq_m, zq_n, zq_o, zq_p, zq_q, zq_r, zq_s, zq_t, zq_u, zq_v, zq_w, zq_x, zq_y, zq_z, zq_A, zq_B, zq_C, zq_D, zq_E, zq_F, zq_G, zq_H, zq_I, zq_J, zq_K, zq_L, ↓zq_M, ↓zq_N, ↓zq_O, ↓zq_P, ↓zq_Q, ↓zq_R, zq_S, zq_T, zq_U, zq_V, zq_W, zq_X, zq_Y, zq_Z, zq_0, zq_1, zq_2, zq_3, zq_4, zq_5, ↓zq_6, ↓zq_7, ↓zq_8, ↓zq_9, ↓zq_aa, zq_ab, zq_ac, zq_ad, zq_ae, zq_af, zq_ag, ↓zq_ah, ↓zq_ai, ↓zq_aj, zq_ak, ↓zq_al, ↓zq_am, e_b1, e_b2, x_o1, x_o2, i]
/-- best, by the reference -/
theorem ax_210 {g : Int → Int} (hG : r_G M1 = g) (J1 : r_J M1) (K1 : rx_K M1) (hcs : hd_cs g) (hcv : hd_cvs g) (hB6 : ∀ p, cu_nl g (cu_in g p) ≤ 6 ∨ ¬ (0 ≤ p ∧ p < g 1198)) : ∃ r M', E_C 210 [192, p, w] M1 = some (r, M') ∧ r = if (0 ≤ p ∧ p < g 1198) ∧ 0 ≤ w ∧ w ≤ 2 then (if w = 0 then (ax_B g p : Int) * ax_S g p (ax_B g p : Int) else if w = 1 then (ax_B g p : Int) else ax_S g p (ax_B g p : Int)) else -1 := by
  have hW := (r_J_E J1).2.1
  by_cases c : 0 ≤ p ∧ p < g 1198
  · have ip := r_ip1 hW (by rw [hG]; exact c)
    by_cases cw : 0 ≤ w ∧ w ≤ 2
    · have iw := r_in1 (M := M1) cw
      obtain ⟨q, rfl⟩ : ∃ q : Nat, p = q := ⟨p.toNat, by omega⟩
      obtain ⟨M', k, sm, hs⟩ := ax_gives hG J1 K1 hcs hcv c.2
      have L6 := (hB6 (q : Int)).resolve_right (fun e => e c)
      have sb : ∀ u : Int, 0 ≤ ax_S g (q : Int) u ∧ ax_S g (q : Int) u ≤ 600 := fun u => bx_s_bd L6
      have bo := rx_208 (M := M') (s := fun u => ax_S g (q : Int) (u : Int)) (fun u hu => hs u (by omega)) (fun u _ => ⟨(sb u).1, by have := (sb u).2; omega⟩)
      have bl := ax_B_le (g := g) (p := (q : Int))
      have bo' : E_C 208 [192] M' = some ((ax_B g (q : Int) : Int), M') := bo
      have l1 : e_op 60 [205, (ax_B g (q : Int) : Int)] M' = some (ax_S g (q : Int) (ax_B g (q : Int) : Int)) := (r_rd5 (by omega) (by omega)).trans (by rw [Int.toNat_natCast, hs _ (by omega)])
      have pw := (bx_pw (u := (ax_B g (q : Int) : Int)) (z := ax_S g (q : Int) (ax_B g (q : Int) : Int)) ⟨by omega, by omega⟩ ⟨(sb _).1, by have := (sb (ax_B g (q : Int) : Int)).2; omega⟩).1
      rw [if_pos ⟨c, cw⟩]
      clear hs sb bo bl
      revert bo' l1 pw
      generalize ax_S g (q : Int) (ax_B g (q : Int) : Int) = z
      generalize (ax_B g (q : Int) : Int) = b
      intro bo' l1 pw
      by_cases w0 : w = 0
      · subst w0
        refine ⟨b * z, M', ?_, (if_pos rfl).symm⟩
        rw [r_ent (show e_rok 210 [192, (q : Int), 0] = true from decide_eq_true r_ref)]
        show e_tv E_C (E_V 210) e_t210_0 [192, (q : Int), 0, 0] M1 = _
        unfold e_t210_0
        simp [zq_a, zq_b, zq_c, zq_d, zq_e, zq_f, zq_g, zq_h, zq_i, zq_j, zq_k, zq_l, zq_m, zq_n, zq_o, zq_p, zq_q, zq_r, zq_s, zq_t, zq_u, zq_v, zq_w, zq_x, zq_y, zq_z, zq_A, zq_B, zq_C, zq_D, zq_E, zq_F, zq_G, zq_H, zq_I, zq_J, zq_K, zq_L, ↓zq_M, ↓zq_N, ↓zq_O, ↓zq_P, ↓zq_Q, ↓zq_R, zq_S, zq_T, zq_U, zq_V, zq_W, zq_X, zq_Y, zq_Z, zq_0, zq_1, zq_2, zq_3, zq_4, zq_5, ↓zq_6, ↓zq_7, ↓zq_8, ↓zq_9, ↓zq_aa, zq_ab, zq_ac, zq_ad, zq_ae, zq_af, zq_ag, ↓zq_ah, ↓zq_ai, ↓zq_aj, zq_ak, ↓zq_al, ↓zq_am, e_b1, e_b2, x_o1, x_o2, r_O25, ip, iw, k, bo', l1, pw]
      · by_cases w1 : w = 1
        · subst w1
          refine ⟨b, M', ?_, by rw [if_neg (by decide), if_pos rfl]⟩
          rw [r_ent (show e_rok 210 [192, (q : Int), 1] = true from decide_eq_true r_ref)]
          show e_tv E_C (E_V 210) e_t210_0 [192, (q : Int), 1, 0] M1 = _
          unfold e_t210_0
          simp [zq_a, zq_b, zq_c, zq_d, zq_e, zq_f, zq_g, zq_h, zq_i, zq_j, zq_k, zq_l, zq_m, zq_n, zq_o, zq_p, zq_q, zq_r, zq_s, zq_t, zq_u, zq_v, zq_w, zq_x, zq_y, zq_z, zq_A, zq_B, zq_C, zq_D, zq_E, zq_F, zq_G, zq_H, zq_I, zq_J, zq_K, zq_L, ↓zq_M, ↓zq_N, ↓zq_O, ↓zq_P, ↓zq_Q, ↓zq_R, zq_S, zq_T, zq_U, zq_V, zq_W, zq_X, zq_Y, zq_Z, zq_0, zq_1, zq_2, zq_3, zq_4, zq_5, ↓zq_6, ↓zq_7, ↓zq_8, ↓zq_9, ↓zq_aa, zq_ab, zq_ac, zq_ad, zq_ae, zq_af, zq_ag, ↓zq_ah, ↓zq_ai, ↓zq_aj, zq_ak, ↓zq_al, ↓zq_am, e_b1, e_b2, x_o1, x_o2, ip, iw, k, bo']
        · have e : w = 2 := by omega
          subst e
          refine ⟨z, M', ?_, by rw [if_neg (by decide), if_neg (by decide)]⟩
          rw [r_ent (show e_rok 210 [192, (q : Int), 2] = true from decide_eq_true r_ref)]
          show e_tv E_C (E_V 210) e_t210_0 [192, (q : Int), 2, 0] M1 = _
          unfold e_t210_0
          simp [zq_a, zq_b, zq_c, zq_d, zq_e, zq_f, zq_g, zq_h, zq_i, zq_j, zq_k, zq_l, zq_m, zq_n, zq_o, zq_p, zq_q, zq_r, zq_s, zq_t, zq_u, zq_v, zq_w, zq_x, zq_y, zq_z, zq_A, zq_B, zq_C, zq_D, zq_E, zq_F, zq_G, zq_H, zq_I, zq_J, zq_K, zq_L, ↓zq_M, ↓zq_N, ↓zq_O, ↓zq_P, ↓zq_Q, ↓zq_R, zq_S, zq_T, zq_U, zq_V, zq_W, zq_X, zq_Y, zq_Z, zq_0, zq_1, zq_2, zq_3, zq_4, zq_5, ↓zq_6, ↓zq_7, ↓zq_8, ↓zq_9, ↓zq_aa, zq_ab, zq_ac, zq_ad, zq_ae, zq_af, zq_ag, ↓zq_ah, ↓zq_ai, ↓zq_aj, zq_ak, ↓zq_al, ↓zq_am, e_b1, e_b2, x_o1, x_o2, r_O25, ip, iw, k, bo', l1]
    · have iw := r_in0 (M := M1) cw
      refine ⟨-1, M1, ?_, (if_neg (fun e => cw e.2)).symm⟩
      rw [r_ent (show e_rok 210 [192, p, w] = true from decide_eq_true r_ref)]
      show e_tv E_C (E_V 210) e_t210_0 [192, p, w, 0] M1 = _
      unfold e_t210_0
      simp [zq_a, zq_b, zq_c, zq_d, zq_e, zq_f, zq_g, zq_h, zq_i, zq_j, zq_k, zq_l, zq_m, zq_n, zq_o, zq_p, zq_q, zq_r, zq_s, zq_t, zq_u, zq_v, zq_w, zq_x, zq_y, zq_z, zq_A, zq_B, zq_C, zq_D, zq_E, zq_F, zq_G, zq_H, zq_I, zq_J, zq_K, zq_L, ↓zq_M, ↓zq_N, ↓zq_O, ↓zq_P, ↓zq_Q, ↓zq_R, zq_S, zq_T, zq_U, zq_V, zq_W, zq_X, zq_Y, zq_Z, zq_0, zq_1, zq_2, zq_3, zq_4, zq_5, ↓zq_6, ↓zq_7, ↓zq_8, ↓zq_9, ↓zq_aa, zq_ab, zq_ac, zq_ad, zq_ae, zq_af, zq_ag, ↓zq_ah, ↓zq_ai, ↓zq_aj, zq_ak, ↓zq_al, ↓zq_am, e_b1, e_b2, x_o1, x_o2, ip, iw]
  · have ip := r_ip0 hW (show ¬ (0 ≤ p ∧ p < r_G M1 1198) by rw [hG]; exact c)
    refine ⟨-1, M1, ?_, (if_neg (fun e => c e.1)).symm⟩
    rw [r_ent (show e_rok 210 [192, p, w] = true from decide_eq_true r_ref)]
    show e_tv E_C (E_V 210) e_t210_0 [192, p, w, 0] M1 = _
    unfold e_t210_0
    simp [zq_a, zq_b, zq_c, zq_d, zq_e, zq_f, zq_g, zq_h, zq_i, zq_j, zq_k, zq_l, zq_m, zq_n, zq_o, zq_p, zq_q, zq_r, zq_s, zq_t, zq_u, zq_v, zq_w, zq_x, zq_y, zq_z, zq_A, zq_B, zq_C, zq_D, zq_E, zq_F, zq_G, zq_H, zq_I, zq_J, zq_K, zq_L, ↓zq_M, ↓zq_N, ↓zq_O, ↓zq_P, ↓zq_Q, ↓zq_R, zq_S, zq_T, zq_U, zq_V, zq_W, zq_X, zq_Y, zq_Z, zq_0, zq_1, zq_2, zq_3, zq_4, zq_5, ↓zq_6, ↓zq_7, ↓zq_8, ↓zq_9, ↓zq_aa, zq_ab, zq_ac, zq_ad, zq_ae, zq_af, zq_ag, ↓zq_ah, ↓zq_ai, ↓zq_aj, zq_ak, ↓zq_al, ↓zq_am, e_b1, e_b2, x_o1, x_o2, ip]
theorem ax_L6 (h : hd_all M) : ∀ p, cu_nl (r_G M) (cu_in (r_G M) p) ≤ 6 ∨ ¬ (0 ≤ p ∧ p < r_G M 1198) := by
  intro p
  by_cases c : 0 ≤ p ∧ p < r_G M 1198
  · obtain ⟨q, rfl⟩ : ∃ q : Nat, p = q := ⟨p.toNat, by omega⟩
    obtain ⟨N, -, hX, -⟩ := ax_1 h c.2
    exact Or.inl hX.1.2
  · exact Or.inr c
theorem ax_best (h : hd_all M) (J1 : r_J M1) (K1 : rx_K M1) (hfr : ∀ i, M1 193 i = M 193 i) (k1 : E_C 111 [8, p, w] M = some (r1, M1)) (k2 : E_C 210 [192, p, w] M1 = some (r2, M2)) : r1 = r2 ∧ M1 171 0 = 0 := by
  have eG : r_G M1 = r_G M := funext fun i => hfr _
  obtain ⟨r, M', a1, a2, a3⟩ := ax_111 (p := p) (w := w) h
  obtain ⟨r', M'', b1, b3⟩ := ax_210 (p := p) (w := w) eG J1 K1 (hd_cs_of h.2.1) (hd_cvs_of h.2.2.1) (ax_L6 h)
  obtain ⟨e1, e2⟩ := Prod.mk.inj (Option.some.inj (k1.symm.trans a1))
  obtain ⟨f1, f2⟩ := Prod.mk.inj (Option.some.inj (k2.symm.trans b1))
  exact ⟨by rw [e1, f1, a3, b3], by rw [e2]; exact a2⟩
end AXB
end
section
/-! CURRENT at a PUSH, PUSH at a CURRENT: the two answers -/
section AXC
variable {M M1 M2 : EM} {p u r1 r2 : Int}
/-- the class's currentOf -/
theorem ax_158 {p : Nat} (h : hd_all M) (hp : (p : Int) < r_G M 1198) (hu : -1000 ≤ u ∧ u ≤ 1000) : ∃ M', E_C 158 [8, (p : Int), u] M = some (ax_S (r_G M) (p : Int) u, M') ∧ M' 171 0 = 0 ∧ ∀ id, id < 162 → M' id = M id := by
  obtain ⟨N, k, hX, hS, hN, h7, e, h0⟩ := ax_1 h hp
  obtain ⟨hB, hC, hD, h171⟩ := h
  obtain ⟨⟨L1, L6⟩, ok, hoc, hog⟩ := hX
  obtain ⟨n1, n2, n3, n4, n5, n6⟩ := hN
  obtain ⟨A, a1, a2, a3⟩ := bx_draw hB.2.1.2 hD e hoc n1 n2 n3 n4 n5 n6
  obtain ⟨B, b1, b2, b3, b4⟩ := bx_cur (lo := u) (hi := u) (n := 1) hD (hd_bd hC) ok L6 hoc hog a2 hu (by omega) (by decide)
  have c := bx_19 (M := B) (u := u) (lo := u) (k := 0) b2 hu (by omega) (by decide)
  have v : B 181 0 = ax_S (r_G M) (p : Int) u := (b3 0 (by decide)).trans (by
    show cu_S _ (u + 0) _ = _
    rw [Int.add_zero]
    rfl)
  rw [v] at c
  refine ⟨B, ?_, (b4 _ _ (by decide) (by decide) (by omega)).trans ((a3 _ _ (by decide)).trans h0), fun id hid => funext fun j => (b4 _ _ (by omega) (by omega) (by omega)).trans ((a3 _ _ (by omega)).trans (congrFun (e id hid) j))⟩
  clear v b3 a2 n1 n5 n6 ok hoc hog
  generalize ax_S (r_G M) (p : Int) u = z at c ⊢
  generalize (p : Int) = pp at k ⊢
  have s0 : E_C 158 [8, pp, u] M = e_tv E_C (E_V 158) e_t158_0 [8, pp, u] M := r_ent (u := 158) (as := [8, pp, u]) (M := M) (decide_eq_true c_this)
  rw [s0]
  unfold e_t158_0
  simp [zq_a, zq_b, zq_c, zq_d, zq_e, zq_f, zq_g, zq_h, zq_i, zq_j, zq_k, zq_l, zq_m, zq_n, zq_o, zq_p, zq_q, zq_r, zq_s, zq_t, zq_u, zq_v, zq_w, zq_x, zq_y, zq_z, zq_A, zq_B, zq_C, zq_D, zq_E, zq_F, zq_G, zq_H, zq_I, zq_J, zq_K, zq_L, ↓zq_M, ↓zq_N, ↓zq_O, ↓zq_P, ↓zq_Q, ↓zq_R, zq_S, zq_T, zq_U, zq_V, zq_W, zq_X, zq_Y, zq_Z, zq_0, zq_1, zq_2, zq_3, zq_4, zq_5, ↓zq_6, ↓zq_7, ↓zq_8, ↓zq_9, ↓zq_aa, zq_ab, zq_ac, zq_ad, zq_ae, zq_af, zq_ag, ↓zq_ah, ↓zq_ai, ↓zq_aj, zq_ak, ↓zq_al, ↓zq_am, e_b1, e_b2, x_o1, x_o2, ax_bench, k, a1, b1, c]
theorem ax_110 (h : hd_all M) : ∃ r M', E_C 110 [8, p, u] M = some (r, M') ∧ M' 171 0 = 0 ∧ r = if (0 ≤ p ∧ p < r_G M 1198) ∧ -50 ≤ u ∧ u ≤ 999 then ax_S (r_G M) p u else -1 := by
  have h10 : M 10 0 = r_G M 1198 := h.1.1
  have i := h_149 (k := p) (M := M)
  rw [h10] at i
  have s0 : E_C 110 [8, p, u] M = e_tv E_C (E_V 110) e_t110_0 [8, p, u] M := r_ent (u := 110) (as := [8, p, u]) (M := M) (decide_eq_true c_this)
  rw [s0]
  unfold e_t110_0
  by_cases c : 0 ≤ p ∧ p < r_G M 1198
  · rw [if_pos c] at i
    rcases x_le (-50) u with ⟨c0, c0_n⟩ | ⟨c0, c0_n⟩
    · rcases x_lt 999 u with ⟨c2, c2_n⟩ | ⟨c2, c2_n⟩
      · refine ⟨-1, M, ?_, h.2.2.2, (if_neg (fun e => by omega)).symm⟩
        simp [zq_a, zq_b, zq_c, zq_d, zq_e, zq_f, zq_g, zq_h, zq_i, zq_j, zq_k, zq_l, zq_m, zq_n, zq_o, zq_p, zq_q, zq_r, zq_s, zq_t, zq_u, zq_v, zq_w, zq_x, zq_y, zq_z, zq_A, zq_B, zq_C, zq_D, zq_E, zq_F, zq_G, zq_H, zq_I, zq_J, zq_K, zq_L, ↓zq_M, ↓zq_N, ↓zq_O, ↓zq_P, ↓zq_Q, ↓zq_R, zq_S, zq_T, zq_U, zq_V, zq_W, zq_X, zq_Y, zq_Z, zq_0, zq_1, zq_2, zq_3, zq_4, zq_5, ↓zq_6, ↓zq_7, ↓zq_8, ↓zq_9, ↓zq_aa, zq_ab, zq_ac, zq_ad, zq_ae, zq_af, zq_ag, ↓zq_ah, ↓zq_ai, ↓zq_aj, zq_ak, ↓zq_al, ↓zq_am, e_b1, e_b2, x_o1, x_o2, i, c0, c0_n, c2, c2_n]
      · obtain ⟨q, rfl⟩ : ∃ q : Nat, p = q := ⟨p.toNat, by omega⟩
        obtain ⟨M', k, m0, -⟩ := ax_158 (u := u) h c.2 ⟨by omega, by omega⟩
        rw [if_pos ⟨c, c0, by omega⟩]
        refine ⟨_, M', ?_, m0, rfl⟩
        simp [zq_a, zq_b, zq_c, zq_d, zq_e, zq_f, zq_g, zq_h, zq_i, zq_j, zq_k, zq_l, zq_m, zq_n, zq_o, zq_p, zq_q, zq_r, zq_s, zq_t, zq_u, zq_v, zq_w, zq_x, zq_y, zq_z, zq_A, zq_B, zq_C, zq_D, zq_E, zq_F, zq_G, zq_H, zq_I, zq_J, zq_K, zq_L, ↓zq_M, ↓zq_N, ↓zq_O, ↓zq_P, ↓zq_Q, ↓zq_R, zq_S, zq_T, zq_U, zq_V, zq_W, zq_X, zq_Y, zq_Z, zq_0, zq_1, zq_2, zq_3, zq_4, zq_5, ↓zq_6, ↓zq_7, ↓zq_8, ↓zq_9, ↓zq_aa, zq_ab, zq_ac, zq_ad, zq_ae, zq_af, zq_ag, ↓zq_ah, ↓zq_ai, ↓zq_aj, zq_ak, ↓zq_al, ↓zq_am, e_b1, e_b2, x_o1, x_o2, i, c0, c0_n, c2, c2_n, k]
    · refine ⟨-1, M, ?_, h.2.2.2, (if_neg (fun e => by omega)).symm⟩
      simp [zq_a, zq_b, zq_c, zq_d, zq_e, zq_f, zq_g, zq_h, zq_i, zq_j, zq_k, zq_l, zq_m, zq_n, zq_o, zq_p, zq_q, zq_r, zq_s, zq_t, zq_u, zq_v, zq_w, zq_x, zq_y, zq_z, zq_A, zq_B, zq_C, zq_D, zq_E, zq_F, zq_G, zq_H, zq_I, zq_J, zq_K, zq_L, ↓zq_M, ↓zq_N, ↓zq_O, ↓zq_P, ↓zq_Q, ↓zq_R, zq_S, zq_T, zq_U, zq_V, zq_W, zq_X, zq_Y, zq_Z, zq_0, zq_1, zq_2, zq_3, zq_4, zq_5, ↓zq_6, ↓zq_7, ↓zq_8, ↓zq_9, ↓zq_aa, zq_ab, zq_ac, zq_ad, zq_ae, zq_af, zq_ag, ↓zq_ah, ↓zq_ai, ↓zq_aj, zq_ak, ↓zq_al, ↓zq_am, e_b1, e_b2, x_o1, x_o2, i, c0, c0_n]
  · rw [if_neg c] at i
    refine ⟨-1, M, ?_, h.2.2.2, (if_neg (fun e => c e.1)).symm⟩
    simp [zq_a, zq_b, zq_c, zq_d, zq_e, zq_f, zq_g, zq_h, zq_i, zq_j, zq_k, zq_l, zq_m, zq_n, zq_o, zq_p, zq_q, zq_r, zq_s, zq_t, zq_u, zq_v, zq_w, zq_x, zq_y, zq_z, zq_A, zq_B, zq_C, zq_D, zq_E, zq_F, zq_G, zq_H, zq_I, zq_J, zq_K, zq_L, ↓zq_M, ↓zq_N, ↓zq_O, ↓zq_P, ↓zq_Q, ↓zq_R, zq_S, zq_T, zq_U, zq_V, zq_W, zq_X, zq_Y, zq_Z, zq_0, zq_1, zq_2, zq_3, zq_4, zq_5, ↓zq_6, ↓zq_7, ↓zq_8, ↓zq_9, ↓zq_aa, zq_ab, zq_ac, zq_ad, zq_ae, zq_af, zq_ag, ↓zq_ah, ↓zq_ai, ↓zq_aj, zq_ak, ↓zq_al, ↓zq_am, e_b1, e_b2, x_o1, x_o2, i]
theorem ax_207 {g : Int → Int} (hG : r_G M1 = g) (J1 : r_J M1) (K1 : rx_K M1) (hcs : hd_cs g) (hcv : hd_cvs g) : E_C 207 [192, p, u] M1 = some (if (0 ≤ p ∧ p < g 1198) ∧ -50 ≤ u ∧ u ≤ 999 then ax_S g p u else -1, M1) := by
  have hW := (r_J_E J1).2.1
  by_cases c : 0 ≤ p ∧ p < g 1198
  · have ip := r_ip1 hW (by rw [hG]; exact c)
    by_cases cw : -50 ≤ u ∧ u ≤ 999
    · have iw := r_in1 (M := M1) cw
      have hm := rx_MD_md (rx_MD0 hG K1 J1.2.2.2.2 hcs)
      have hW' := hW
      rw [hG] at hW'
      have k := rx_currentOf (b := g 1198) (p := p) (u := u) hm (by rw [hG]; exact hcv) hW'.2.1 (by rw [hG]; exact Int.le_refl _) (by rw [hG]; exact hW'.2.2.1 p c.1 c.2)
      rw [hG] at k
      have k' : E_C 202 [192, p, u] M1 = some (ax_S g p u, M1) := k
      rw [if_pos ⟨c, cw⟩]
      rw [r_ent (show e_rok 207 [192, p, u] = true from decide_eq_true r_ref)]
      show e_tv E_C (E_V 207) e_t207_0 [192, p, u] M1 = _
      unfold e_t207_0
      simp [zq_a, zq_b, zq_c, zq_d, zq_e, zq_f, zq_g, zq_h, zq_i, zq_j, zq_k, zq_l, zq_m, zq_n, zq_o, zq_p, zq_q, zq_r, zq_s, zq_t, zq_u, zq_v, zq_w, zq_x, zq_y, zq_z, zq_A, zq_B, zq_C, zq_D, zq_E, zq_F, zq_G, zq_H, zq_I, zq_J, zq_K, zq_L, ↓zq_M, ↓zq_N, ↓zq_O, ↓zq_P, ↓zq_Q, ↓zq_R, zq_S, zq_T, zq_U, zq_V, zq_W, zq_X, zq_Y, zq_Z, zq_0, zq_1, zq_2, zq_3, zq_4, zq_5, ↓zq_6, ↓zq_7, ↓zq_8, ↓zq_9, ↓zq_aa, zq_ab, zq_ac, zq_ad, zq_ae, zq_af, zq_ag, ↓zq_ah, ↓zq_ai, ↓zq_aj, zq_ak, ↓zq_al, ↓zq_am, e_b1, e_b2, x_o1, x_o2, ip, iw, k']
    · have iw := r_in0 (M := M1) cw
      rw [if_neg (fun e => cw e.2)]
      rw [r_ent (show e_rok 207 [192, p, u] = true from decide_eq_true r_ref)]
      show e_tv E_C (E_V 207) e_t207_0 [192, p, u] M1 = _
      unfold e_t207_0
      simp [zq_a, zq_b, zq_c, zq_d, zq_e, zq_f, zq_g, zq_h, zq_i, zq_j, zq_k, zq_l, zq_m, zq_n, zq_o, zq_p, zq_q, zq_r, zq_s, zq_t, zq_u, zq_v, zq_w, zq_x, zq_y, zq_z, zq_A, zq_B, zq_C, zq_D, zq_E, zq_F, zq_G, zq_H, zq_I, zq_J, zq_K, zq_L, ↓zq_M, ↓zq_N, ↓zq_O, ↓zq_P, ↓zq_Q, ↓zq_R, zq_S, zq_T, zq_U, zq_V, zq_W, zq_X, zq_Y, zq_Z, zq_0, zq_1, zq_2, zq_3, zq_4, zq_5, ↓zq_6, ↓zq_7, ↓zq_8, ↓zq_9, ↓zq_aa, zq_ab, zq_ac, zq_ad, zq_ae, zq_af, zq_ag, ↓zq_ah, ↓zq_ai, ↓zq_aj, zq_ak, ↓zq_al, ↓zq_am, e_b1, e_b2, x_o1, x_o2, ip, iw]
  · have ip := r_ip0 hW (show ¬ (0 ≤ p ∧ p < r_G M1 1198) by rw [hG]; exact c)
    rw [if_neg (fun e => c e.1)]
    rw [r_ent (show e_rok 207 [192, p, u] = true from decide_eq_true r_ref)]
    show e_tv E_C (E_V 207) e_t207_0 [192, p, u] M1 = _
    unfold e_t207_0
    simp [zq_a, zq_b, zq_c, zq_d, zq_e, zq_f, zq_g, zq_h, zq_i, zq_j, zq_k, zq_l, zq_m, zq_n, zq_o, zq_p, zq_q, zq_r, zq_s, zq_t, zq_u, zq_v, zq_w, zq_x, zq_y, zq_z, zq_A, zq_B, zq_C, zq_D, zq_E, zq_F, zq_G, zq_H, zq_I, zq_J, zq_K, zq_L, ↓zq_M, ↓zq_N, ↓zq_O, ↓zq_P, ↓zq_Q, ↓zq_R, zq_S, zq_T, zq_U, zq_V, zq_W, zq_X, zq_Y, zq_Z, zq_0, zq_1, zq_2, zq_3, zq_4, zq_5, ↓zq_6, ↓zq_7, ↓zq_8, ↓zq_9, ↓zq_aa, zq_ab, zq_ac, zq_ad, zq_ae, zq_af, zq_ag, ↓zq_ah, ↓zq_ai, ↓zq_aj, zq_ak, ↓zq_al, ↓zq_am, e_b1, e_b2, x_o1, x_o2, ip]
theorem ax_current (h : hd_all M) (J1 : r_J M1) (K1 : rx_K M1) (hfr : ∀ i, M1 193 i = M 193 i) (k1 : E_C 110 [8, p, u] M = some (r1, M1)) (k2 : E_C 207 [192, p, u] M1 = some (r2, M2)) : r1 = r2 ∧ M1 171 0 = 0 := by
  have eG : r_G M1 = r_G M := funext fun i => hfr _
  obtain ⟨r, M', a1, a2, a3⟩ := ax_110 (p := p) (u := u) h
  have b1 := ax_207 (p := p) (u := u) eG J1 K1 (hd_cs_of h.2.1) (hd_cvs_of h.2.2.1)
  obtain ⟨e1, e2⟩ := Prod.mk.inj (Option.some.inj (k1.symm.trans a1))
  obtain ⟨f1, f2⟩ := Prod.mk.inj (Option.some.inj (k2.symm.trans b1))
  exact ⟨by rw [e1, f1, a3], by rw [e2]; exact a2⟩
end AXC
end
