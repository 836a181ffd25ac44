section
/-! the class's takeAll, image and restore -/
theorem p_C_tr {so to : Nat} {D D' : AW} {M0 M1 M2 : EM} (hd : p_dir so to) (h : p_C so to D M0 M1) (k : p_C so to D' M1 M2) : p_C so to (D' ++ D) M0 M2 := by
  have hs : ∀ id j, 10 ≤ id ∧ id ≤ 76 → M1 (id + so) j = M0 (id + so) j := fun id j hi => p_C_src hd hi h j
  obtain ⟨h1, h2, h3⟩ := h
  obtain ⟨k1, k2, k3⟩ := k
  refine ⟨fun w hw j j0 j1 => ?_, fun id j hn => ?_, fun w hw => ?_⟩
  · by_cases c : ∃ w' ∈ D', w'.1 = w.1 ∧ w'.2.1 ≤ j ∧ j ≤ w'.2.2
    · obtain ⟨w', hw', e, e1, e2⟩ := c
      rw [← e, k1 w' hw' j e1 e2, hs _ _ (k3 w' hw')]
    · rcases List.mem_append.mp hw with hw | hw
      · exact absurd ⟨w, hw, rfl, j0, j1⟩ c
      · rw [k2 _ _ (fun w' hw' hc => c ⟨w', hw', by omega, hc.2⟩)]
        exact h1 w hw j j0 j1
  · rw [k2 _ _ (fun w hw hc => hn w (List.mem_append.mpr (Or.inl hw)) hc)]
    exact h2 _ _ (fun w hw hc => hn w (List.mem_append.mpr (Or.inr hw)) hc)
  · rcases List.mem_append.mp hw with hw | hw
    · exact k3 w hw
    · exact h3 w hw
theorem p_is7 {n : Nat} (h : (37 ≤ n ∧ n ≤ 76) ∨ (105 ≤ n ∧ n ≤ 144)) : e_isO 7 (n : Int) := (by decide +kernel : ∀ n : Fin 145, ((37 ≤ n.val ∧ n.val ≤ 76) ∨ (105 ≤ n.val ∧ n.val ≤ 144)) → e_isO 7 (n.val : Int)) ⟨n, by omega⟩ h
theorem p_80 {so to id s t : Nat} (hd : p_dir so to) (hi : 37 ≤ id ∧ id ≤ 76) (es : s = id + so) (et : t = id + to) {D : AW} {M0 M : EM} (h : p_C so to D M0 M) : ∃ M1, E_C 80 [(t : Int), (s : Int)] M = some (0, M1) ∧ p_C so to ((id, 4, 4) :: (id, 3, 3) :: (id, 2, 2) :: (id, 1, 1) :: (id, 0, 0) :: D) M0 M1 := by
  have is : e_isO 7 (s : Int) := p_is7 (by unfold p_dir at hd; omega)
  have it : e_isO 7 (t : Int) := p_is7 (by unfold p_dir at hd; omega)
  have g0 : ∀ M, e_gf 448 [(s : Int)] M = some (M s 0) := fun M => c_gf is (by decide +kernel)
  have w0 : ∀ v M, e_pf 448 [(t : Int), v] M = some (e_up M t 0 v) := fun v M => c_pf it (by decide +kernel)
  have g1 : ∀ M, e_gf 449 [(s : Int)] M = some (M s 1) := fun M => c_gf is (by decide +kernel)
  have w1 : ∀ v M, e_pf 449 [(t : Int), v] M = some (e_up M t 1 v) := fun v M => c_pf it (by decide +kernel)
  have g2 : ∀ M, e_gf 450 [(s : Int)] M = some (M s 2) := fun M => c_gf is (by decide +kernel)
  have w2 : ∀ v M, e_pf 450 [(t : Int), v] M = some (e_up M t 2 v) := fun v M => c_pf it (by decide +kernel)
  have g3 : ∀ M, e_gf 451 [(s : Int)] M = some (M s 3) := fun M => c_gf is (by decide +kernel)
  have w3 : ∀ v M, e_pf 451 [(t : Int), v] M = some (e_up M t 3 v) := fun v M => c_pf it (by decide +kernel)
  have g4 : ∀ M, e_gf 452 [(s : Int)] M = some (M s 4) := fun M => c_gf is (by decide +kernel)
  have w4 : ∀ v M, e_pf 452 [(t : Int), v] M = some (e_up M t 4 v) := fun v M => c_pf it (by decide +kernel)
  have hi10 : 10 ≤ id ∧ id ≤ 76 := ⟨by omega, hi.2⟩
  refine ⟨(e_up (e_up (e_up (e_up (e_up M t 0 (M s 0)) t 1 ((e_up M t 0 (M s 0)) s 1)) t 2 ((e_up (e_up M t 0 (M s 0)) t 1 ((e_up M t 0 (M s 0)) s 1)) s 2)) t 3 ((e_up (e_up (e_up M t 0 (M s 0)) t 1 ((e_up M t 0 (M s 0)) s 1)) t 2 ((e_up (e_up M t 0 (M s 0)) t 1 ((e_up M t 0 (M s 0)) s 1)) s 2)) s 3)) t 4 ((e_up (e_up (e_up (e_up M t 0 (M s 0)) t 1 ((e_up M t 0 (M s 0)) s 1)) t 2 ((e_up (e_up M t 0 (M s 0)) t 1 ((e_up M t 0 (M s 0)) s 1)) s 2)) t 3 ((e_up (e_up (e_up M t 0 (M s 0)) t 1 ((e_up M t 0 (M s 0)) s 1)) t 2 ((e_up (e_up M t 0 (M s 0)) t 1 ((e_up M t 0 (M s 0)) s 1)) s 2)) s 3)) s 4)), ?_, ?_⟩
  · rw [r_ent (show e_rok 80 [(t : Int), (s : Int)] = true from decide_eq_true it)]
    show e_tv E_C (E_V 80) e_t80_0 [(t : Int), (s : Int)] M = _
    unfold e_t80_0
    simp [zq_a, zq_b, zq_c, zq_d, zq_e, zq_f, zq_g, zq_h, zq_i, zq_j, zq_k, zq_l, zq_m, zq_n, zq_o, zq_p, zq_q, zq_r, zq_s, zq_t, zq_u, zq_v, zq_w, zq_x, zq_y, zq_z, zq_A, zq_B, zq_C, zq_D, zq_E, zq_F, zq_G, zq_H, zq_I, zq_J, zq_K, zq_L, ↓zq_M, ↓zq_N, ↓zq_O, ↓zq_P, ↓zq_Q, ↓zq_R, zq_S, zq_T, zq_U, zq_V, zq_W, zq_X, zq_Y, zq_Z, zq_0, zq_1, zq_2, zq_3, zq_4, zq_5, ↓zq_6, ↓zq_7, ↓zq_8, ↓zq_9, ↓zq_aa, zq_ab, zq_ac, zq_ad, zq_ae, zq_af, zq_ag, ↓zq_ah, ↓zq_ai, ↓zq_aj, zq_ak, ↓zq_al, ↓zq_am, e_b1, e_b2, x_o1, x_o2, g0, g1, g2, g3, g4, w0, w1, w2, w3, w4]
  · subst es et
    exact (p_C_cell (j := 4) hd hi10 (p_C_cell (j := 3) hd hi10 (p_C_cell (j := 2) hd hi10 (p_C_cell (j := 1) hd hi10 (p_C_cell (j := 0) hd hi10 h)))))
def p_DL : Nat → AW
  | 0 => []
  | i + 1 => (37 + i, 4, 4) :: (37 + i, 3, 3) :: (37 + i, 2, 2) :: (37 + i, 1, 1) :: (37 + i, 0, 0) :: p_DL i
theorem p_gr25 {i : Nat} (h : i < 40) : e_gr 25 i = ((37 + i : Nat) : Int) ∧ e_gr 93 i = ((105 + i : Nat) : Int) := (by decide +kernel : ∀ i : Fin 40, e_gr 25 i.val = ((37 + i.val : Nat) : Int) ∧ e_gr 93 i.val = ((105 + i.val : Nat) : Int)) ⟨i, h⟩
theorem p_len {a : Int} {n : Nat} (h : 8 ≤ a ∧ a.toNat < e_N ∧ 100 ≤ (e_sh a.toNat).1 ∧ (e_sh a.toNat).2 = n) (M : EM) : e_op 63 [a] M = some (n : Int) := by
  obtain ⟨h1, h2, h3, h4⟩ := h
  have z : e_sz M a.toNat = n := (if_neg (by omega)).trans h4
  have h0 : 0 ≤ a := by omega
  simp [e_op, z, h0, h2, h3]
theorem p_len25 (M : EM) : e_op 63 [25] M = some 40 ∧ e_op 63 [93] M = some 40 := ⟨p_len (n := 40) (by decide +kernel) M, p_len (n := 40) (by decide +kernel) M⟩
theorem p_rd25 {i : Nat} (h : i < 40) (M : EM) : e_op 62 [25, (i : Int)] M = some ((37 + i : Nat) : Int) ∧ e_op 62 [93, (i : Int)] M = some ((105 + i : Nat) : Int) := by
  have z1 : e_sz M 25 = 40 := (if_neg (by decide)).trans (by decide +kernel)
  have z2 : e_sz M 93 = 40 := (if_neg (by decide)).trans (by decide +kernel)
  refine ⟨?_, ?_⟩
  · have c : (0 : Int) ≤ 25 ∧ (25 : Int).toNat < e_N ∧ 102 ≤ (e_sh (25 : Int).toNat).1 ∧ 0 ≤ (i : Int) ∧ (i : Int).toNat < e_sz M (25 : Int).toNat := ⟨by decide, by decide +kernel, by decide +kernel, by omega, by show _ < e_sz M 25; omega⟩
    exact (if_pos c).trans (congrArg some ((congrArg (e_gr 25) (Int.toNat_natCast i)).trans (p_gr25 h).1))
  · have c : (0 : Int) ≤ 93 ∧ (93 : Int).toNat < e_N ∧ 102 ≤ (e_sh (93 : Int).toNat).1 ∧ 0 ≤ (i : Int) ∧ (i : Int).toNat < e_sz M (93 : Int).toNat := ⟨by decide, by decide +kernel, by decide +kernel, by omega, by show _ < e_sz M 93; omega⟩
    exact (if_pos c).trans (congrArg some ((congrArg (e_gr 93) (Int.toNat_natCast i)).trans (p_gr25 h).2))
def p_D48 : AW := p_D93 ++ (p_D72 ++ (p_DL 40 ++ (p_D34 ++ p_D51)))

theorem p_48i_step {i : Nat} (h : i < 40) {x3 x4 : Int} {D : AW} {M0 M : EM} (hC : p_C 0 68 (p_DL i ++ D) M0 M) : ∃ y3 y4 M1, E_V 48 24 [77, 9, (i : Int), x3, x4] M = E_V 48 24 [77, 9, ((i + 1 : Nat) : Int), y3, y4] M1 ∧ p_C 0 68 (p_DL (i + 1) ++ D) M0 M1 := by
  have hd : p_dir 0 68 := by unfold p_dir; decide
  obtain ⟨M1, k, c⟩ := p_80 (id := 37 + i) (s := 37 + i) (t := 105 + i) hd ⟨by omega, by omega⟩ (by omega) (by omega) hC
  have fs : ∀ M, e_gf 194 [9] M = some 25 := fun M => p_g 194 9 25 M (by decide +kernel)
  have ft : ∀ M, e_gf 194 [77] M = some 93 := fun M => p_g 194 77 93 M (by decide +kernel)
  have ls := fun M => (p_len25 M).1
  have lt := fun M => (p_len25 M).2
  have rs := fun M => (p_rd25 h M).1
  have rt := fun M => (p_rd25 h M).2
  refine ⟨(((105 + i : Nat)) : Int), (((37 + i : Nat)) : Int), M1, ?_, c⟩
  generalize hb : ((105 + i : Nat) : Int) = bt at k rt ⊢
  generalize hc : ((37 + i : Nat) : Int) = bs at k rs ⊢
  generalize hi1 : ((i + 1 : Nat) : Int) = i1
  generalize hi0 : (i : Int) = i0 at rs rt ⊢
  have nb : ¬ (bt = -1) := by omega
  have nc : ¬ (bs = -1) := by omega
  have w : e_w (i0 + 1) = i1 := (a_w_id (by omega) (by omega)).trans (by omega)
  have q : i0 < 40 := by omega
  have q_n : ¬ (40 ≤ i0) := by omega
  have e72 : ∀ M, E_V 48 72 [77, 9, i0, bt, bs] M = E_V 48 24 [77, 9, i1, bt, bs] M := by
    intro M
    rw [E_V_eq]
    show e_tv E_C (E_V 48) e_t48_72 [77, 9, i0, bt, bs] M = _
    unfold e_t48_72
    simp [zq_a, zq_b, zq_c, zq_d, zq_e, zq_f, zq_g, zq_h, zq_i, zq_j, zq_k, zq_l, zq_m, zq_n, zq_o, zq_p, zq_q, zq_r, zq_s, zq_t, zq_u, zq_v, zq_w, zq_x, zq_y, zq_z, zq_A, zq_B, zq_C, zq_D, zq_E, zq_F, zq_G, zq_H, zq_I, zq_J, zq_K, zq_L, ↓zq_M, ↓zq_N, ↓zq_O, ↓zq_P, ↓zq_Q, ↓zq_R, zq_S, zq_T, zq_U, zq_V, zq_W, zq_X, zq_Y, zq_Z, zq_0, zq_1, zq_2, zq_3, zq_4, zq_5, ↓zq_6, ↓zq_7, ↓zq_8, ↓zq_9, ↓zq_aa, zq_ab, zq_ac, zq_ad, zq_ae, zq_af, zq_ag, ↓zq_ah, ↓zq_ai, ↓zq_aj, zq_ak, ↓zq_al, ↓zq_am, e_b1, e_b2, x_o1, x_o2, w]
  rw [E_V_eq]
  show e_tv E_C (E_V 48) e_t48_24 [77, 9, i0, x3, x4] M = _
  unfold e_t48_24
  simp [zq_a, zq_b, zq_c, zq_d, zq_e, zq_f, zq_g, zq_h, zq_i, zq_j, zq_k, zq_l, zq_m, zq_n, zq_o, zq_p, zq_q, zq_r, zq_s, zq_t, zq_u, zq_v, zq_w, zq_x, zq_y, zq_z, zq_A, zq_B, zq_C, zq_D, zq_E, zq_F, zq_G, zq_H, zq_I, zq_J, zq_K, zq_L, ↓zq_M, ↓zq_N, ↓zq_O, ↓zq_P, ↓zq_Q, ↓zq_R, zq_S, zq_T, zq_U, zq_V, zq_W, zq_X, zq_Y, zq_Z, zq_0, zq_1, zq_2, zq_3, zq_4, zq_5, ↓zq_6, ↓zq_7, ↓zq_8, ↓zq_9, ↓zq_aa, zq_ab, zq_ac, zq_ad, zq_ae, zq_af, zq_ag, ↓zq_ah, ↓zq_ai, ↓zq_aj, zq_ak, ↓zq_al, ↓zq_am, e_b1, e_b2, x_o1, x_o2, fs, ft, ls, lt, rs, rt, nb, nc, q, q_n, k, e72]
theorem p_48i_loop {D : AW} {M0 : EM} : ∀ (m i : Nat) (x3 x4 : Int) (M : EM), i + m = 40 → p_C 0 68 (p_DL i ++ D) M0 M → ∃ y3 y4 M1, E_V 48 24 [77, 9, (i : Int), x3, x4] M = E_V 48 24 [77, 9, 40, y3, y4] M1 ∧ p_C 0 68 (p_DL 40 ++ D) M0 M1 := by
  intro m
  induction m with
  | zero =>
    intro i x3 x4 M hm hC
    have e : i = 40 := by omega
    subst e
    exact ⟨x3, x4, M, rfl, hC⟩
  | succ m ih =>
    intro i x3 x4 M hm hC
    obtain ⟨y3, y4, M1, k, c⟩ := p_48i_step (by omega) (x3 := x3) (x4 := x4) hC
    obtain ⟨z3, z4, M2, k2, c2⟩ := ih (i + 1) y3 y4 M1 (by omega) c
    exact ⟨z3, z4, M2, k.trans k2, c2⟩
theorem p_48i (M : EM) : ∃ M1, E_C 48 [77, 9] M = some (0, M1) ∧ p_C 0 68 p_D48 M M1 := by
  have hd : p_dir 0 68 := by unfold p_dir; decide
  obtain ⟨M1, k1, c1⟩ := p_51i M
  obtain ⟨M2, k2, c2⟩ := p_34i M1
  obtain ⟨y3, y4, M3, k3, c3⟩ := p_48i_loop (D := p_D34 ++ p_D51) 40 0 0 0 M2 rfl (show p_C 0 68 (p_D34 ++ p_D51) M M2 from p_C_tr hd c1 c2)
  obtain ⟨M4, k4, c4⟩ := p_72i M3
  obtain ⟨M5, k5, c5⟩ := p_93i M4
  have k3' : E_V 48 24 [77, 9, 0, 0, 0] M2 = E_V 48 24 [77, 9, 40, y3, y4] M3 := k3
  have fs : ∀ M, e_gf 194 [9] M = some 25 := fun M => p_g 194 9 25 M (by decide +kernel)
  have ft : ∀ M, e_gf 194 [77] M = some 93 := fun M => p_g 194 77 93 M (by decide +kernel)
  have a0 : ∀ M, e_gf 192 [9] M = some 10 := fun M => p_g 192 9 10 M (by decide +kernel)
  have b0 : ∀ M, e_gf 192 [77] M = some 78 := fun M => p_g 192 77 78 M (by decide +kernel)
  have a1 : ∀ M, e_gf 193 [9] M = some 18 := fun M => p_g 193 9 18 M (by decide +kernel)
  have b1 : ∀ M, e_gf 193 [77] M = some 86 := fun M => p_g 193 77 86 M (by decide +kernel)
  have a3 : ∀ M, e_gf 195 [9] M = some 26 := fun M => p_g 195 9 26 M (by decide +kernel)
  have b3 : ∀ M, e_gf 195 [77] M = some 94 := fun M => p_g 195 77 94 M (by decide +kernel)
  have a4 : ∀ M, e_gf 196 [9] M = some 33 := fun M => p_g 196 9 33 M (by decide +kernel)
  have b4 : ∀ M, e_gf 196 [77] M = some 101 := fun M => p_g 196 77 101 M (by decide +kernel)
  have ls := fun M => (p_len25 M).1
  have lt := fun M => (p_len25 M).2
  have kE : E_V 48 24 [77, 9, 40, y3, y4] M3 = some (0, M5) := by
    rw [E_V_eq]
    show e_tv E_C (E_V 48) e_t48_24 [77, 9, 40, y3, y4] M3 = _
    unfold e_t48_24
    simp [zq_a, zq_b, zq_c, zq_d, zq_e, zq_f, zq_g, zq_h, zq_i, zq_j, zq_k, zq_l, zq_m, zq_n, zq_o, zq_p, zq_q, zq_r, zq_s, zq_t, zq_u, zq_v, zq_w, zq_x, zq_y, zq_z, zq_A, zq_B, zq_C, zq_D, zq_E, zq_F, zq_G, zq_H, zq_I, zq_J, zq_K, zq_L, ↓zq_M, ↓zq_N, ↓zq_O, ↓zq_P, ↓zq_Q, ↓zq_R, zq_S, zq_T, zq_U, zq_V, zq_W, zq_X, zq_Y, zq_Z, zq_0, zq_1, zq_2, zq_3, zq_4, zq_5, ↓zq_6, ↓zq_7, ↓zq_8, ↓zq_9, ↓zq_aa, zq_ab, zq_ac, zq_ad, zq_ae, zq_af, zq_ag, ↓zq_ah, ↓zq_ai, ↓zq_aj, zq_ak, ↓zq_al, ↓zq_am, e_b1, e_b2, x_o1, x_o2, fs, ft, ls, lt, a3, b3, a4, b4, k4, k5]
  refine ⟨M5, ?_, p_C_tr hd (p_C_tr hd c3 c4) c5⟩
  rw [r_ent (show e_rok 48 [77, 9] = true by decide +kernel)]
  show e_tv E_C (E_V 48) e_t48_0 [77, 9, 0, 0, 0] M = _
  unfold e_t48_0
  simp [zq_a, zq_b, zq_c, zq_d, zq_e, zq_f, zq_g, zq_h, zq_i, zq_j, zq_k, zq_l, zq_m, zq_n, zq_o, zq_p, zq_q, zq_r, zq_s, zq_t, zq_u, zq_v, zq_w, zq_x, zq_y, zq_z, zq_A, zq_B, zq_C, zq_D, zq_E, zq_F, zq_G, zq_H, zq_I, zq_J, zq_K, zq_L, ↓zq_M, ↓zq_N, ↓zq_O, ↓zq_P, ↓zq_Q, ↓zq_R, zq_S, zq_T, zq_U, zq_V, zq_W, zq_X, zq_Y, zq_Z, zq_0, zq_1, zq_2, zq_3, zq_4, zq_5, ↓zq_6, ↓zq_7, ↓zq_8, ↓zq_9, ↓zq_aa, zq_ab, zq_ac, zq_ad, zq_ae, zq_af, zq_ag, ↓zq_ah, ↓zq_ai, ↓zq_aj, zq_ak, ↓zq_al, ↓zq_am, e_b1, e_b2, x_o1, x_o2, a0, b0, a1, b1, k1, k2, k3', kE]

theorem p_48r_step {i : Nat} (h : i < 40) {x3 x4 : Int} {D : AW} {M0 M : EM} (hC : p_C 68 0 (p_DL i ++ D) M0 M) : ∃ y3 y4 M1, E_V 48 24 [9, 77, (i : Int), x3, x4] M = E_V 48 24 [9, 77, ((i + 1 : Nat) : Int), y3, y4] M1 ∧ p_C 68 0 (p_DL (i + 1) ++ D) M0 M1 := by
  have hd : p_dir 68 0 := by unfold p_dir; decide
  obtain ⟨M1, k, c⟩ := p_80 (id := 37 + i) (s := 105 + i) (t := 37 + i) hd ⟨by omega, by omega⟩ (by omega) (by omega) hC
  have fs : ∀ M, e_gf 194 [77] M = some 93 := fun M => p_g 194 77 93 M (by decide +kernel)
  have ft : ∀ M, e_gf 194 [9] M = some 25 := fun M => p_g 194 9 25 M (by decide +kernel)
  have ls := fun M => (p_len25 M).2
  have lt := fun M => (p_len25 M).1
  have rs := fun M => (p_rd25 h M).2
  have rt := fun M => (p_rd25 h M).1
  refine ⟨(((37 + i : Nat)) : Int), (((105 + i : Nat)) : Int), M1, ?_, c⟩
  generalize hb : ((37 + i : Nat) : Int) = bt at k rt ⊢
  generalize hc : ((105 + i : Nat) : Int) = bs at k rs ⊢
  generalize hi1 : ((i + 1 : Nat) : Int) = i1
  generalize hi0 : (i : Int) = i0 at rs rt ⊢
  have nb : ¬ (bt = -1) := by omega
  have nc : ¬ (bs = -1) := by omega
  have w : e_w (i0 + 1) = i1 := (a_w_id (by omega) (by omega)).trans (by omega)
  have q : i0 < 40 := by omega
  have q_n : ¬ (40 ≤ i0) := by omega
  have e72 : ∀ M, E_V 48 72 [9, 77, i0, bt, bs] M = E_V 48 24 [9, 77, i1, bt, bs] M := by
    intro M
    rw [E_V_eq]
    show e_tv E_C (E_V 48) e_t48_72 [9, 77, i0, bt, bs] M = _
    unfold e_t48_72
    simp [zq_a, zq_b, zq_c, zq_d, zq_e, zq_f, zq_g, zq_h, zq_i, zq_j, zq_k, zq_l, zq_m, zq_n, zq_o, zq_p, zq_q, zq_r, zq_s, zq_t, zq_u, zq_v, zq_w, zq_x, zq_y, zq_z, zq_A, zq_B, zq_C, zq_D, zq_E, zq_F, zq_G, zq_H, zq_I, zq_J, zq_K, zq_L, ↓zq_M, ↓zq_N, ↓zq_O, ↓zq_P, ↓zq_Q, ↓zq_R, zq_S, zq_T, zq_U, zq_V, zq_W, zq_X, zq_Y, zq_Z, zq_0, zq_1, zq_2, zq_3, zq_4, zq_5, ↓zq_6, ↓zq_7, ↓zq_8, ↓zq_9, ↓zq_aa, zq_ab, zq_ac, zq_ad, zq_ae, zq_af, zq_ag, ↓zq_ah, ↓zq_ai, ↓zq_aj, zq_ak, ↓zq_al, ↓zq_am, e_b1, e_b2, x_o1, x_o2, w]
  rw [E_V_eq]
  show e_tv E_C (E_V 48) e_t48_24 [9, 77, i0, x3, x4] M = _
  unfold e_t48_24
  simp [zq_a, zq_b, zq_c, zq_d, zq_e, zq_f, zq_g, zq_h, zq_i, zq_j, zq_k, zq_l, zq_m, zq_n, zq_o, zq_p, zq_q, zq_r, zq_s, zq_t, zq_u, zq_v, zq_w, zq_x, zq_y, zq_z, zq_A, zq_B, zq_C, zq_D, zq_E, zq_F, zq_G, zq_H, zq_I, zq_J, zq_K, zq_L, ↓zq_M, ↓zq_N, ↓zq_O, ↓zq_P, ↓zq_Q, ↓zq_R, zq_S, zq_T, zq_U, zq_V, zq_W, zq_X, zq_Y, zq_Z, zq_0, zq_1, zq_2, zq_3, zq_4, zq_5, ↓zq_6, ↓zq_7, ↓zq_8, ↓zq_9, ↓zq_aa, zq_ab, zq_ac, zq_ad, zq_ae, zq_af, zq_ag, ↓zq_ah, ↓zq_ai, ↓zq_aj, zq_ak, ↓zq_al, ↓zq_am, e_b1, e_b2, x_o1, x_o2, fs, ft, ls, lt, rs, rt, nb, nc, q, q_n, k, e72]
theorem p_48r_loop {D : AW} {M0 : EM} : ∀ (m i : Nat) (x3 x4 : Int) (M : EM), i + m = 40 → p_C 68 0 (p_DL i ++ D) M0 M → ∃ y3 y4 M1, E_V 48 24 [9, 77, (i : Int), x3, x4] M = E_V 48 24 [9, 77, 40, y3, y4] M1 ∧ p_C 68 0 (p_DL 40 ++ D) M0 M1 := by
  intro m
  induction m with
  | zero =>
    intro i x3 x4 M hm hC
    have e : i = 40 := by omega
    subst e
    exact ⟨x3, x4, M, rfl, hC⟩
  | succ m ih =>
    intro i x3 x4 M hm hC
    obtain ⟨y3, y4, M1, k, c⟩ := p_48r_step (by omega) (x3 := x3) (x4 := x4) hC
    obtain ⟨z3, z4, M2, k2, c2⟩ := ih (i + 1) y3 y4 M1 (by omega) c
    exact ⟨z3, z4, M2, k.trans k2, c2⟩
theorem p_48r (M : EM) : ∃ M1, E_C 48 [9, 77] M = some (0, M1) ∧ p_C 68 0 p_D48 M M1 := by
  have hd : p_dir 68 0 := by unfold p_dir; decide
  obtain ⟨M1, k1, c1⟩ := p_51r M
  obtain ⟨M2, k2, c2⟩ := p_34r M1
  obtain ⟨y3, y4, M3, k3, c3⟩ := p_48r_loop (D := p_D34 ++ p_D51) 40 0 0 0 M2 rfl (show p_C 68 0 (p_D34 ++ p_D51) M M2 from p_C_tr hd c1 c2)
  obtain ⟨M4, k4, c4⟩ := p_72r M3
  obtain ⟨M5, k5, c5⟩ := p_93r M4
  have k3' : E_V 48 24 [9, 77, 0, 0, 0] M2 = E_V 48 24 [9, 77, 40, y3, y4] M3 := k3
  have fs : ∀ M, e_gf 194 [77] M = some 93 := fun M => p_g 194 77 93 M (by decide +kernel)
  have ft : ∀ M, e_gf 194 [9] M = some 25 := fun M => p_g 194 9 25 M (by decide +kernel)
  have a0 : ∀ M, e_gf 192 [77] M = some 78 := fun M => p_g 192 77 78 M (by decide +kernel)
  have b0 : ∀ M, e_gf 192 [9] M = some 10 := fun M => p_g 192 9 10 M (by decide +kernel)
  have a1 : ∀ M, e_gf 193 [77] M = some 86 := fun M => p_g 193 77 86 M (by decide +kernel)
  have b1 : ∀ M, e_gf 193 [9] M = some 18 := fun M => p_g 193 9 18 M (by decide +kernel)
  have a3 : ∀ M, e_gf 195 [77] M = some 94 := fun M => p_g 195 77 94 M (by decide +kernel)
  have b3 : ∀ M, e_gf 195 [9] M = some 26 := fun M => p_g 195 9 26 M (by decide +kernel)
  have a4 : ∀ M, e_gf 196 [77] M = some 101 := fun M => p_g 196 77 101 M (by decide +kernel)
  have b4 : ∀ M, e_gf 196 [9] M = some 33 := fun M => p_g 196 9 33 M (by decide +kernel)
  have ls := fun M => (p_len25 M).2
  have lt := fun M => (p_len25 M).1
  have kE : E_V 48 24 [9, 77, 40, y3, y4] M3 = some (0, M5) := by
    rw [E_V_eq]
    show e_tv E_C (E_V 48) e_t48_24 [9, 77, 40, y3, y4] M3 = _
    unfold e_t48_24
    simp [zq_a, zq_b, zq_c, zq_d, zq_e, zq_f, zq_g, zq_h, zq_i, zq_j, zq_k, zq_l, zq_m, zq_n, zq_o, zq_p, zq_q, zq_r, zq_s, zq_t, zq_u, zq_v, zq_w, zq_x, zq_y, zq_z, zq_A, zq_B, zq_C, zq_D, zq_E, zq_F, zq_G, zq_H, zq_I, zq_J, zq_K, zq_L, ↓zq_M, ↓zq_N, ↓zq_O, ↓zq_P, ↓zq_Q, ↓zq_R, zq_S, zq_T, zq_U, zq_V, zq_W, zq_X, zq_Y, zq_Z, zq_0, zq_1, zq_2, zq_3, zq_4, zq_5, ↓zq_6, ↓zq_7, ↓zq_8, ↓zq_9, ↓zq_aa, zq_ab, zq_ac, zq_ad, zq_ae, zq_af, zq_ag, ↓zq_ah, ↓zq_ai, ↓zq_aj, zq_ak, ↓zq_al, ↓zq_am, e_b1, e_b2, x_o1, x_o2, fs, ft, ls, lt, a3, b3, a4, b4, k4, k5]
  refine ⟨M5, ?_, p_C_tr hd (p_C_tr hd c3 c4) c5⟩
  rw [r_ent (show e_rok 48 [9, 77] = true by decide +kernel)]
  show e_tv E_C (E_V 48) e_t48_0 [9, 77, 0, 0, 0] M = _
  unfold e_t48_0
  simp [zq_a, zq_b, zq_c, zq_d, zq_e, zq_f, zq_g, zq_h, zq_i, zq_j, zq_k, zq_l, zq_m, zq_n, zq_o, zq_p, zq_q, zq_r, zq_s, zq_t, zq_u, zq_v, zq_w, zq_x, zq_y, zq_z, zq_A, zq_B, zq_C, zq_D, zq_E, zq_F, zq_G, zq_H, zq_I, zq_J, zq_K, zq_L, ↓zq_M, ↓zq_N, ↓zq_O, ↓zq_P, ↓zq_Q, ↓zq_R, zq_S, zq_T, zq_U, zq_V, zq_W, zq_X, zq_Y, zq_Z, zq_0, zq_1, zq_2, zq_3, zq_4, zq_5, ↓zq_6, ↓zq_7, ↓zq_8, ↓zq_9, ↓zq_aa, zq_ab, zq_ac, zq_ad, zq_ae, zq_af, zq_ag, ↓zq_ah, ↓zq_ai, ↓zq_aj, zq_ak, ↓zq_al, ↓zq_am, e_b1, e_b2, x_o1, x_o2, a0, b0, a1, b1, k1, k2, k3', kE]

theorem p_705 (M : EM) : e_gf 705 [8] M = some 77 := p_g 705 8 77 M (by decide +kernel)
theorem p_706 (M : EM) : e_gf 706 [8] M = some (M 8 2) := c_gf c_this (by decide +kernel)
theorem p_p706 (v : Int) (M : EM) : e_pf 706 [8, v] M = some (e_up M 8 2 v) := c_pf c_this (by decide +kernel)
theorem p_192 (M : EM) : e_gf 192 [9] M = some 10 := p_g 192 9 10 M (by decide +kernel)
theorem p_256 (M : EM) : e_gf 256 [10] M = some (M 10 0) := c_gf (by decide +kernel) (by decide +kernel)
theorem p_image (M : EM) : ∃ M1, E_C 136 [8] M = some (M 10 0, e_up M1 8 2 1) ∧ p_C 0 68 p_D48 M M1 := by
  obtain ⟨M1, k, c⟩ := p_48i M
  have e : M1 10 0 = M 10 0 := c.2.1 10 0 (fun w hw hc => by have := c.2.2 w hw; omega)
  have e2 : (e_up M1 8 2 1) 10 0 = M 10 0 := (c_up_n (fun h => absurd h.1 (by decide))).trans e
  refine ⟨M1, ?_, c⟩
  rw [r_ent (show e_rok 136 [8] = true from decide_eq_true c_this)]
  show e_tv E_C (E_V 136) e_t136_0 [8] M = _
  unfold e_t136_0
  simp [zq_a, zq_b, zq_c, zq_d, zq_e, zq_f, zq_g, zq_h, zq_i, zq_j, zq_k, zq_l, zq_m, zq_n, zq_o, zq_p, zq_q, zq_r, zq_s, zq_t, zq_u, zq_v, zq_w, zq_x, zq_y, zq_z, zq_A, zq_B, zq_C, zq_D, zq_E, zq_F, zq_G, zq_H, zq_I, zq_J, zq_K, zq_L, ↓zq_M, ↓zq_N, ↓zq_O, ↓zq_P, ↓zq_Q, ↓zq_R, zq_S, zq_T, zq_U, zq_V, zq_W, zq_X, zq_Y, zq_Z, zq_0, zq_1, zq_2, zq_3, zq_4, zq_5, ↓zq_6, ↓zq_7, ↓zq_8, ↓zq_9, ↓zq_aa, zq_ab, zq_ac, zq_ad, zq_ae, zq_af, zq_ag, ↓zq_ah, ↓zq_ai, ↓zq_aj, zq_ak, ↓zq_al, ↓zq_am, e_b1, e_b2, x_o1, x_o2, p_704, p_705, p_p706, p_192, p_256, k, e2]
theorem p_restore {M : EM} (h : M 8 2 ≠ 0) : ∃ M1, E_C 137 [8] M = some (M1 10 0, M1) ∧ p_C 68 0 p_D48 M M1 := by
  obtain ⟨M1, k, c⟩ := p_48r M
  refine ⟨M1, ?_, c⟩
  rw [r_ent (show e_rok 137 [8] = true from decide_eq_true c_this)]
  show e_tv E_C (E_V 137) e_t137_0 [8] M = _
  unfold e_t137_0
  simp [zq_a, zq_b, zq_c, zq_d, zq_e, zq_f, zq_g, zq_h, zq_i, zq_j, zq_k, zq_l, zq_m, zq_n, zq_o, zq_p, zq_q, zq_r, zq_s, zq_t, zq_u, zq_v, zq_w, zq_x, zq_y, zq_z, zq_A, zq_B, zq_C, zq_D, zq_E, zq_F, zq_G, zq_H, zq_I, zq_J, zq_K, zq_L, ↓zq_M, ↓zq_N, ↓zq_O, ↓zq_P, ↓zq_Q, ↓zq_R, zq_S, zq_T, zq_U, zq_V, zq_W, zq_X, zq_Y, zq_Z, zq_0, zq_1, zq_2, zq_3, zq_4, zq_5, ↓zq_6, ↓zq_7, ↓zq_8, ↓zq_9, ↓zq_aa, zq_ab, zq_ac, zq_ad, zq_ae, zq_af, zq_ag, ↓zq_ah, ↓zq_ai, ↓zq_aj, zq_ak, ↓zq_al, ↓zq_am, e_b1, e_b2, x_o1, x_o2, p_704, p_705, p_706, p_192, p_256, h, k]
theorem p_restore0 {M : EM} (h : M 8 2 = 0) : E_C 137 [8] M = some (-3, M) := by
  rw [r_ent (show e_rok 137 [8] = true from decide_eq_true c_this)]
  show e_tv E_C (E_V 137) e_t137_0 [8] M = _
  unfold e_t137_0
  simp [zq_a, zq_b, zq_c, zq_d, zq_e, zq_f, zq_g, zq_h, zq_i, zq_j, zq_k, zq_l, zq_m, zq_n, zq_o, zq_p, zq_q, zq_r, zq_s, zq_t, zq_u, zq_v, zq_w, zq_x, zq_y, zq_z, zq_A, zq_B, zq_C, zq_D, zq_E, zq_F, zq_G, zq_H, zq_I, zq_J, zq_K, zq_L, ↓zq_M, ↓zq_N, ↓zq_O, ↓zq_P, ↓zq_Q, ↓zq_R, zq_S, zq_T, zq_U, zq_V, zq_W, zq_X, zq_Y, zq_Z, zq_0, zq_1, zq_2, zq_3, zq_4, zq_5, ↓zq_6, ↓zq_7, ↓zq_8, ↓zq_9, ↓zq_aa, zq_ab, zq_ac, zq_ad, zq_ae, zq_af, zq_ag, ↓zq_ah, ↓zq_ai, ↓zq_aj, zq_ak, ↓zq_al, ↓zq_am, e_b1, e_b2, x_o1, x_o2, p_706, h]
end
section
/-! the relation: what the class's HOUSE holds of roof, trade and room is what the reference's row holds, now and in the image -/
def p_P : List (Nat × Nat × Nat) := (List.range 10).flatMap (fun k => [(27, k, 1120 + 3 * k), (28, k, 1121 + 3 * k), (29, k, 1122 + 3 * k)]) ++ ((List.range 12).flatMap (fun k => [(30, k, 1150 + 2 * k), (31, k, 1151 + 2 * k), (34, k, 1174 + 2 * k), (35, k, 1175 + 2 * k)]) ++ [(33, 2, 1199)])
def p_rel (f : Nat → Nat → Int) (g : Nat → Int) : Prop := ∀ q ∈ p_P, f q.1 q.2.1 = g q.2.2
def p_R (M : EM) : Prop := p_rel M (M 193) ∧ (∀ q ∈ p_P, M (q.1 + 68) q.2.1 = M 194 q.2.2) ∧ M 8 2 = M 192 9
theorem p_inj : ∀ q ∈ p_P, ∀ q' ∈ p_P, (q.1 = q'.1 ∧ q.2.1 = q'.2.1) ↔ q.2.2 = q'.2.2 := by decide +kernel
theorem p_bd : ∀ q ∈ p_P, 27 ≤ q.1 ∧ q.1 ≤ 35 ∧ q.2.2 < 1330 := by decide +kernel
theorem p_cov : ∀ q ∈ p_P, ∃ w ∈ p_D48, w.1 = q.1 ∧ w.2.1 ≤ q.2.1 ∧ q.2.1 ≤ w.2.2 := by decide +kernel
theorem p_rel_up {f : Nat → Nat → Int} {g : Nat → Int} {c k r : Nat} {v : Int} (h : p_rel f g) (hm : (c, k, r) ∈ p_P) : p_rel (e_up f c k v) (fun i => if i = r then v else g i) := by
  intro q hq
  have hi := p_inj q hq _ hm
  by_cases c0 : q.2.2 = r
  · have c1 := hi.mpr c0
    show e_up f c k v q.1 q.2.1 = (if q.2.2 = r then v else g q.2.2)
    rw [if_pos c0, c1.1, c1.2, c_up_s]
  · have c1 : ¬ (q.1 = c ∧ q.2.1 = k) := fun e => c0 (hi.mp e)
    show e_up f c k v q.1 q.2.1 = (if q.2.2 = r then v else g q.2.2)
    rw [if_neg c0, c_up_n c1]
    exact h q hq
theorem p_193 (M : EM) (r : Nat) (v : Int) : e_up M 193 r v 193 = fun i => if i = r then v else M 193 i := by
  funext i
  unfold e_up
  simp
/-- the class's side is not touched by the reference's row -/
theorem p_rel_193 {M : EM} {g : Nat → Int} {r : Nat} {v : Int} (h : p_rel M g) : p_rel (e_up M 193 r v) g := by
  intro q hq
  have := p_bd q hq
  rw [c_up_n (fun e => by omega)]
  exact h q hq
def p_k1 : List (Nat × Nat) := p_P.flatMap (fun q => [(q.1, q.2.1), (193, q.2.2)])
def p_k2 : List (Nat × Nat) := p_P.flatMap (fun q => [(q.1 + 68, q.2.1), (194, q.2.2)]) ++ [(8, 2), (192, 9)]
def p_av (K : List (Nat × Nat)) (W : AW) : Bool := K.all (fun c => W.all (fun w => !(decide (w.1 = c.1 ∧ w.2.1 ≤ c.2 ∧ c.2 ≤ w.2.2))))
theorem p_av_ok {K : List (Nat × Nat)} {W : AW} {M M' : EM} (h : p_av K W = true) (hf : a_fr W M M') : ∀ c ∈ K, M' c.1 c.2 = M c.1 c.2 := fun c hc => hf _ _ (fun w hw e => by
  have h1 := List.all_eq_true.mp (List.all_eq_true.mp h c hc) w hw
  rw [Bool.not_eq_true', decide_eq_false_iff_not] at h1
  exact h1 e)
theorem p_k1_ok {M M' : EM} (h : ∀ c ∈ p_k1, M' c.1 c.2 = M c.1 c.2) (hr : p_rel M (M 193)) : p_rel M' (M' 193) := fun q hq => by
  have h1 := h (q.1, q.2.1) (List.mem_flatMap.mpr ⟨q, hq, by simp⟩)
  have h2 := h (193, q.2.2) (List.mem_flatMap.mpr ⟨q, hq, by simp⟩)
  dsimp only at h1 h2
  rw [h1, h2]
  exact hr q hq
theorem p_k2_ok {M M' : EM} (h : ∀ c ∈ p_k2, M' c.1 c.2 = M c.1 c.2) (hr : (∀ q ∈ p_P, M (q.1 + 68) q.2.1 = M 194 q.2.2) ∧ M 8 2 = M 192 9) : (∀ q ∈ p_P, M' (q.1 + 68) q.2.1 = M' 194 q.2.2) ∧ M' 8 2 = M' 192 9 := by
  refine ⟨fun q hq => ?_, ?_⟩
  · have h1 := h (q.1 + 68, q.2.1) (List.mem_append.mpr (Or.inl (List.mem_flatMap.mpr ⟨q, hq, by simp⟩)))
    have h2 := h (194, q.2.2) (List.mem_append.mpr (Or.inl (List.mem_flatMap.mpr ⟨q, hq, by simp⟩)))
    dsimp only at h1 h2
    rw [h1, h2]
    exact hr.1 q hq
  · have h1 := h (8, 2) (List.mem_append.mpr (Or.inr (by simp)))
    have h2 := h (192, 9) (List.mem_append.mpr (Or.inr (by simp)))
    dsimp only at h1 h2
    rw [h1, h2]
    exact hr.2
/-- a call that keeps off -/
theorem p_keep {W : AW} {M M' : EM} (h1 : p_av p_k1 W = true) (h2 : p_av p_k2 W = true) (hf : a_fr W M M') (hR : p_R M) : p_R M' := by
  obtain ⟨r1, r2, r3⟩ := hR
  obtain ⟨s1, s2⟩ := p_k2_ok (p_av_ok h2 hf) ⟨r2, r3⟩
  exact ⟨p_k1_ok (p_av_ok h1 hf) r1, s1, s2⟩
theorem p_up_k2 {M : EM} {a k : Nat} {v : Int} (h : p_k2.all (fun c => decide (c.1 ≠ a)) = true) : ∀ c ∈ p_k2, e_up M a k v c.1 c.2 = M c.1 c.2 := fun c hc => c_up_n (fun e => by
  have := of_decide_eq_true (List.all_eq_true.mp h c hc)
  exact this e.1)
theorem p_inW : ∀ j : Nat, j < 10 → (27, j, 1120 + 3 * j) ∈ p_P ∧ (28, j, 1120 + 3 * j + 1) ∈ p_P ∧ (29, j, 1120 + 3 * j + 2) ∈ p_P := by decide +kernel
theorem p_inS1 : ∀ j : Nat, j < 12 → (30, j, 1150 + 2 * j) ∈ p_P ∧ (31, j, 1150 + 2 * j + 1) ∈ p_P := by decide +kernel
theorem p_inT1 : ∀ j : Nat, j < 12 → (34, j, 1174 + 2 * j) ∈ p_P ∧ (35, j, 1174 + 2 * j + 1) ∈ p_P := by decide +kernel
theorem p_inS (j : Nat) (h : j < 12) : (30, j, 1150 + 2 * j) ∈ p_P ∧ (31, j, 1150 + 2 * j + 1) ∈ p_P ∧ (34, j, 1174 + 2 * j) ∈ p_P ∧ (35, j, 1174 + 2 * j + 1) ∈ p_P := ⟨(p_inS1 j h).1, (p_inS1 j h).2, (p_inT1 j h).1, (p_inT1 j h).2⟩
theorem p_inR : (33, 2, 1199) ∈ p_P := by decide +kernel
theorem p_a2 : p_k2.all (fun c => decide (c.1 ≠ 193) && decide (c.1 < 27 ∨ 35 < c.1)) = true := by decide +kernel
theorem p_u2 {M : EM} {a k : Nat} {v : Int} (h : a = 193 ∨ (27 ≤ a ∧ a ≤ 35)) : ∀ c ∈ p_k2, e_up M a k v c.1 c.2 = M c.1 c.2 := fun c hc => c_up_n (fun e => by
  have := List.all_eq_true.mp p_a2 c hc
  simp only [Bool.and_eq_true, decide_eq_true_eq] at this
  omega)
theorem p_k2_up {M : EM} {a k : Nat} {v : Int} (h : a = 193 ∨ (27 ≤ a ∧ a ≤ 35)) (hr : (∀ q ∈ p_P, M (q.1 + 68) q.2.1 = M 194 q.2.2) ∧ M 8 2 = M 192 9) : (∀ q ∈ p_P, (e_up M a k v) (q.1 + 68) q.2.1 = (e_up M a k v) 194 q.2.2) ∧ (e_up M a k v) 8 2 = (e_up M a k v) 192 9 := p_k2_ok (p_u2 h) hr
theorem p_up193 {M : EM} {a k : Nat} {v : Int} (h : a ≠ 193) : e_up M a k v 193 = M 193 := by
  funext i
  exact c_up_n (fun e => h e.1.symm)
theorem p_wall_R {k x y h : Int} {M : EM} (hR : p_R M) : ∃ r M1 M2, E_C 118 [8, k, x, y, h] M = some (r, M1) ∧ E_C 220 [192, k, x, y, h] M1 = some (r, M2) ∧ p_R M2 := by
  by_cases q : (0 ≤ k ∧ k ≤ 9) ∧ (0 ≤ x ∧ x ≤ 19) ∧ (0 ≤ y ∧ y ≤ 11) ∧ 0 ≤ h ∧ h ≤ 30
  · obtain ⟨j, rfl⟩ : ∃ j : Nat, k = (j : Int) := ⟨k.toNat, by omega⟩
    have hj : j < 10 := by omega
    obtain ⟨i0, i1, i2⟩ := p_inW j hj
    obtain ⟨r1, r2⟩ := hR
    have e0 : (1120 + 3 * (j : Int)).toNat = 1120 + 3 * j := by omega
    have e1 : (1120 + 3 * (j : Int) + 1).toNat = 1120 + 3 * j + 1 := by omega
    have e2 : (1120 + 3 * (j : Int) + 2).toNat = 1120 + 3 * j + 2 := by omega
    have g1 : p_wl3 M j x y h 193 = M 193 := by
      unfold p_wl3
      rw [p_up193 (by decide), p_up193 (by decide), p_up193 (by decide)]
    refine ⟨M 29 j, p_wl3 M j x y h, r_wl3 (p_wl3 M j x y h) j x y h, ?_, ?_, ?_, ?_⟩
    · rw [p_wall, if_pos q]
      rfl
    · rw [r_wall_eq, if_pos q]
      unfold r_G
      rw [g1, e2, ← r1 _ i2]
    · have f := p_rel_up (v := h) (p_rel_up (v := y) (p_rel_up (v := x) r1 i0) i1) i2
      unfold r_wl3
      rw [e0, e1, e2]
      refine p_rel_193 (p_rel_193 (p_rel_193 ?_))
      rw [p_193, p_193, p_193, g1]
      exact f
    · unfold r_wl3
      refine p_k2_up (Or.inl rfl) (p_k2_up (Or.inl rfl) (p_k2_up (Or.inl rfl) ?_))
      unfold p_wl3
      exact p_k2_up (Or.inr (by decide)) (p_k2_up (Or.inr (by decide)) (p_k2_up (Or.inr (by decide)) r2))
  · exact ⟨-1, M, M, by rw [p_wall, if_neg q], by rw [r_wall_eq, if_neg q], hR⟩
theorem p_sun_R {h d l : Int} {M : EM} (hR : p_R M) : ∃ r M1 M2, E_C 119 [8, h, d, l] M = some (r, M1) ∧ E_C 221 [192, h, d, l] M1 = some (r, M2) ∧ p_R M2 := by
  by_cases q : (0 ≤ h ∧ h ≤ 11) ∧ (0 ≤ d ∧ d ≤ 7) ∧ 0 ≤ l ∧ l ≤ 30
  · obtain ⟨j, rfl⟩ : ∃ j : Nat, h = (j : Int) := ⟨h.toNat, by omega⟩
    have hj : j < 12 := by omega
    obtain ⟨i0, i1, -, -⟩ := p_inS j hj
    obtain ⟨r1, r2⟩ := hR
    have e0 : (1150 + 2 * (j : Int)).toNat = 1150 + 2 * j := by omega
    have e1 : (1150 + 2 * (j : Int) + 1).toNat = 1150 + 2 * j + 1 := by omega
    have g1 : p_sn2 M j d l 193 = M 193 := by
      unfold p_sn2
      rw [p_up193 (by decide), p_up193 (by decide)]
    refine ⟨e_w (e_w (100 * M 30 j) + M 31 j), p_sn2 M j d l, r_sn2 (p_sn2 M j d l) j d l, ?_, ?_, ?_, ?_⟩
    · rw [p_sun, if_pos q]
      rfl
    · rw [r_sun_eq, if_pos q]
      unfold r_G
      rw [g1, e0, e1, ← r1 _ i0, ← r1 _ i1]
    · have f := p_rel_up (v := l) (p_rel_up (v := d) r1 i0) i1
      unfold r_sn2
      rw [e0, e1]
      refine p_rel_193 (p_rel_193 ?_)
      rw [p_193, p_193, g1]
      exact f
    · unfold r_sn2
      refine p_k2_up (Or.inl rfl) (p_k2_up (Or.inl rfl) ?_)
      unfold p_sn2
      exact p_k2_up (Or.inr (by decide)) (p_k2_up (Or.inr (by decide)) r2)
  · exact ⟨-1, M, M, by rw [p_sun, if_neg q], by rw [r_sun_eq, if_neg q], hR⟩
theorem p_trade_R {h t : Int} {M : EM} (ht : t ≤ 2147483647) (hR : p_R M) : ∃ r M1 M2, E_C 128 [8, h, t] M = some (r, M1) ∧ E_C 241 [192, h, t] M1 = some (r, M2) ∧ p_R M2 := by
  by_cases q : (0 ≤ h ∧ h ≤ 11) ∧ 0 ≤ t ∧ t / 100 ≤ 20
  · obtain ⟨j, rfl⟩ : ∃ j : Nat, h = (j : Int) := ⟨h.toNat, by omega⟩
    have hj : j < 12 := by omega
    obtain ⟨-, -, i0, i1⟩ := p_inS j hj
    obtain ⟨r1, r2⟩ := hR
    have e0 : (1174 + 2 * (j : Int)).toNat = 1174 + 2 * j := by omega
    have e1 : (1174 + 2 * (j : Int) + 1).toNat = 1174 + 2 * j + 1 := by omega
    have g1 : p_tr2 M j t 193 = M 193 := by
      unfold p_tr2
      rw [p_up193 (by decide), p_up193 (by decide)]
    refine ⟨e_w (e_w (100 * M 34 j) + M 35 j), p_tr2 M j t, r_tr2 (p_tr2 M j t) j t, ?_, ?_, ?_, ?_⟩
    · rw [p_trade ht, if_pos q]
      rfl
    · rw [r_trade_eq ht, if_pos q]
      unfold r_G
      rw [g1, e0, e1, ← r1 _ i0, ← r1 _ i1]
    · have f := p_rel_up (v := t % 100) (p_rel_up (v := t / 100) r1 i0) i1
      unfold r_tr2
      rw [e0, e1]
      refine p_rel_193 (p_rel_193 ?_)
      rw [p_193, p_193, g1]
      exact f
    · unfold r_tr2
      refine p_k2_up (Or.inl rfl) (p_k2_up (Or.inl rfl) ?_)
      unfold p_tr2
      exact p_k2_up (Or.inr (by decide)) (p_k2_up (Or.inr (by decide)) r2)
  · exact ⟨-1, M, M, by rw [p_trade ht, if_neg q], by rw [r_trade_eq ht, if_neg q], hR⟩
theorem p_room_R {n : Int} {M : EM} (hR : p_R M) : ∃ r M1 M2, E_C 129 [8, n] M = some (r, M1) ∧ E_C 242 [192, n] M1 = some (r, M2) ∧ p_R M2 := by
  by_cases q : 0 ≤ n ∧ n ≤ 30
  · obtain ⟨r1, r2⟩ := hR
    have g1 : (e_up M 33 2 n) 193 = M 193 := p_up193 (by decide)
    refine ⟨M 33 2, e_up M 33 2 n, e_up (e_up M 33 2 n) 193 1199 n, ?_, ?_, ?_, ?_⟩
    · rw [p_room, if_pos q]
    · rw [r_room_eq, if_pos q]
      unfold r_G
      rw [g1]
      exact congrArg (fun z => some (z, _)) (r1 _ p_inR).symm
    · refine p_rel_193 ?_
      rw [p_193, g1]
      exact p_rel_up r1 p_inR
    · exact p_k2_up (Or.inl rfl) (p_k2_up (Or.inr (by decide)) r2)
  · exact ⟨-1, M, M, by rw [p_room, if_neg q], by rw [r_room_eq, if_neg q], hR⟩
theorem p_image_R {M : EM} (hR : p_R M) : ∃ r M1 r2 M2, E_C 136 [8] M = some (r, M1) ∧ E_C 255 [192] M1 = some (r2, M2) ∧ p_R M2 := by
  obtain ⟨M1, k, c⟩ := p_image M
  obtain ⟨r1, r2, r3⟩ := hR
  refine ⟨_, _, _, _, k, r_image _, fun q hq => ?_, fun q hq => ?_, ?_⟩
  · have b := p_bd q hq
    rw [c_up_n (fun e => by omega), r_cp_n (by omega), c_up_n (fun e => by omega), c.2.1 _ _ (fun w hw e => by have := c.2.2 w hw; omega)]
    rw [c_up_n (fun e => by omega), r_cp_n (by omega), c_up_n (fun e => by omega), c.2.1 _ _ (fun w hw e => by have := c.2.2 w hw; omega)]
    exact r1 q hq
  · have b := p_bd q hq
    obtain ⟨w, hw, w1, w2, w3⟩ := p_cov q hq
    rw [c_up_n (fun e => by omega), r_cp_n (by omega), c_up_n (fun e => by omega), ← w1, c.1 w hw _ w2 w3, w1]
    rw [c_up_n (fun e => by omega), r_cp_t b.2.2, c_up_n (fun e => by omega), c.2.1 _ _ (fun w hw e => by have := c.2.2 w hw; omega)]
    exact r1 q hq
  · rw [c_up_s, c_up_n (fun e => by omega), r_cp_n (by omega), c_up_s]
theorem p_restore_R {M : EM} (hR : p_R M) : ∃ r M1 r2 M2, E_C 137 [8] M = some (r, M1) ∧ E_C 256 [192] M1 = some (r2, M2) ∧ p_R M2 := by
  have hR0 := hR
  obtain ⟨r1, r2, r3⟩ := hR
  by_cases z : M 8 2 = 0
  · refine ⟨_, _, -3, M, p_restore0 z, ?_, hR0⟩
    rw [r_restore, if_pos (r3 ▸ z)]
  · obtain ⟨M1, k, c⟩ := p_restore z
    have far : ∀ id j, id < 10 ∨ 76 < id → M1 id j = M id j := fun id j h => c.2.1 _ _ (fun w hw e => by have := c.2.2 w hw; omega)
    have z2 : ¬ M1 192 9 = 0 := by rw [far _ _ (by omega), ← r3]; exact z
    refine ⟨_, _, r_cp M1 194 193 0 193 1198, r_cp M1 194 193 0, k, by rw [r_restore, if_neg z2], fun q hq => ?_, fun q hq => ?_, ?_⟩
    · have b := p_bd q hq
      obtain ⟨w, hw, w1, w2, w3⟩ := p_cov q hq
      have g : M1 q.1 q.2.1 = M (q.1 + 68) q.2.1 := by
        have := c.1 w hw _ w2 w3
        rw [w1] at this
        exact this
      rw [r_cp_n (by omega), r_cp_t b.2.2, far 194 _ (by omega), g]
      exact r2 q hq
    · have b := p_bd q hq
      rw [r_cp_n (by omega), r_cp_n (by omega), far _ _ (by omega), far _ _ (by omega)]
      exact r2 q hq
    · rw [r_cp_n (by omega), r_cp_n (by omega), far _ _ (by omega), far _ _ (by omega)]
      exact r3
end
section
/-! what the law's three helpers write -/
def l_wQ : AW := a_w1 ++ (a_w16 ++ (a_w160 ++ [(213, 0, 0), (5, 0, 0)]))
theorem l_F1 {W : AW} {M M' : EM} {v : Int} (h : a_fr W M M') (hW : (W.all fun w => decide (w ∈ l_wQ)) = true) : a_fr l_wQ M (e_up M' 213 0 v) := fun id k hn => by
  have hm : ((213, 0, 0) : Nat × Nat × Nat) ∈ l_wQ := by decide +kernel
  rw [c_up_n (fun e => hn _ hm ⟨e.1.symm, by dsimp only; omega, by dsimp only; omega⟩)]
  exact h id k (fun w hw => hn w (of_decide_eq_true (List.all_eq_true.mp hW w hw)))
theorem l_F2 {M : EM} : a_fr l_wQ M (c_thr M) := fun id k hn => by
  have hm : ((5, 0, 0) : Nat × Nat × Nat) ∈ l_wQ := by decide +kernel
  exact c_up_n (fun e => hn _ hm ⟨e.1.symm, by dsimp only; omega, by dsimp only; omega⟩)
theorem l_rfF {W : AW} {u : Nat} {as : List Int} {M : EM} (h : r_T W u as M) (hW : (W.all fun w => decide (192 ≤ w.1)) = true) : ∃ r M1, E_C u as M = some (r, M1) ∧ l_s0 M M1 ∧ a_fr (W ++ r_wq) M M1 := by
  obtain ⟨r, M1, k, s⟩ := l_rf h hW
  obtain ⟨r', M1', k', j, f⟩ := h
  have p := Prod.mk.inj (Option.some.inj (k.symm.trans k'))
  obtain ⟨-, rfl⟩ := p
  exact ⟨r, M1, k, s, f⟩
theorem l_pushF {p c : Int} {M : EM} (hJ : r_J M) (hp : -2147483648 ≤ p ∧ p ≤ 2147483647) (hc : -2147483648 ≤ c ∧ c ≤ 2147483647) : ∃ r M1, E_C 271 [8, p, c, 213] M = some (r, M1) ∧ l_st M M1 ∧ a_fr l_wQ M M1 := by
  obtain ⟨r, M', k, h⟩ := l_cpush hJ.1 hp hc
  have j16 : ∀ M1, E_V 271 16 [8, p, c, 213, 0] M1 = some (0, M1) := by
    intro M1
    rw [E_V_eq]
    show e_tv E_C (E_V 271) e_t271_16 [8, p, c, 213, 0] M1 = _
    unfold e_t271_16
    simp [zq_a, zq_b, zq_c, zq_d, zq_e, zq_f, zq_g, zq_h, zq_i, zq_j, zq_k, zq_l, zq_m, zq_n, zq_o, zq_p, zq_q, zq_r, zq_s, zq_t, zq_u, zq_v, zq_w, zq_x, zq_y, zq_z, zq_A, zq_B, zq_C, zq_D, zq_E, zq_F, zq_G, zq_H, zq_I, zq_J, zq_K, zq_L, ↓zq_M, ↓zq_N, ↓zq_O, ↓zq_P, ↓zq_Q, ↓zq_R, zq_S, zq_T, zq_U, zq_V, zq_W, zq_X, zq_Y, zq_Z, zq_0, zq_1, zq_2, zq_3, zq_4, zq_5, ↓zq_6, ↓zq_7, ↓zq_8, ↓zq_9, ↓zq_aa, zq_ab, zq_ac, zq_ad, zq_ae, zq_af, zq_ag, ↓zq_ah, ↓zq_ai, ↓zq_aj, zq_ak, ↓zq_al, ↓zq_am, e_b1, e_b2, x_o1, x_o2]
  rcases h with ⟨h1, h2, h3⟩ | ⟨h1, h2⟩
  · have n := l_TH r h1
    have s1 := l_cl hJ h2 h3 (by decide +kernel)
    have s2 := l_J213 s1.1 h1
    refine ⟨0, e_up M' 213 0 r, ?_, l_st_s0 (l_s0_st s1) s2, l_F1 h3 (by decide +kernel)⟩
    rw [l_ent (show e_rok 271 [8, p, c, 213] = true from rfl)]
    show e_tv E_C (E_V 271) e_t271_0 [8, p, c, 213, 0] M = _
    unfold e_t271_0
    simp [zq_a, zq_b, zq_c, zq_d, zq_e, zq_f, zq_g, zq_h, zq_i, zq_j, zq_k, zq_l, zq_m, zq_n, zq_o, zq_p, zq_q, zq_r, zq_s, zq_t, zq_u, zq_v, zq_w, zq_x, zq_y, zq_z, zq_A, zq_B, zq_C, zq_D, zq_E, zq_F, zq_G, zq_H, zq_I, zq_J, zq_K, zq_L, ↓zq_M, ↓zq_N, ↓zq_O, ↓zq_P, ↓zq_Q, ↓zq_R, zq_S, zq_T, zq_U, zq_V, zq_W, zq_X, zq_Y, zq_Z, zq_0, zq_1, zq_2, zq_3, zq_4, zq_5, ↓zq_6, ↓zq_7, ↓zq_8, ↓zq_9, ↓zq_aa, zq_ab, zq_ac, zq_ad, zq_ae, zq_af, zq_ag, ↓zq_ah, ↓zq_ai, ↓zq_aj, zq_ak, ↓zq_al, ↓zq_am, e_b1, e_b2, x_o1, x_o2, k, n.1, n.2, l_st213, j16]
  · subst h2
    refine ⟨1, c_thr M, ?_, l_thr hJ, l_F2⟩
    rw [l_ent (show e_rok 271 [8, p, c, 213] = true from rfl)]
    show e_tv E_C (E_V 271) e_t271_0 [8, p, c, 213, 0] M = _
    unfold e_t271_0
    simp [zq_a, zq_b, zq_c, zq_d, zq_e, zq_f, zq_g, zq_h, zq_i, zq_j, zq_k, zq_l, zq_m, zq_n, zq_o, zq_p, zq_q, zq_r, zq_s, zq_t, zq_u, zq_v, zq_w, zq_x, zq_y, zq_z, zq_A, zq_B, zq_C, zq_D, zq_E, zq_F, zq_G, zq_H, zq_I, zq_J, zq_K, zq_L, ↓zq_M, ↓zq_N, ↓zq_O, ↓zq_P, ↓zq_Q, ↓zq_R, zq_S, zq_T, zq_U, zq_V, zq_W, zq_X, zq_Y, zq_Z, zq_0, zq_1, zq_2, zq_3, zq_4, zq_5, ↓zq_6, ↓zq_7, ↓zq_8, ↓zq_9, ↓zq_aa, zq_ab, zq_ac, zq_ad, zq_ae, zq_af, zq_ag, ↓zq_ah, ↓zq_ai, ↓zq_aj, zq_ak, ↓zq_al, ↓zq_am, e_b1, e_b2, x_o1, x_o2, k, h1]
theorem l_lossF {p c al : Int} {M : EM} (hJ : r_J M) (hp : -2147483648 ≤ p ∧ p ≤ 2147483647) (hc : -2147483648 ≤ c ∧ c ≤ 2147483647) : ∃ r M1, E_C 272 [8, p, c, al, 213] M = some (r, M1) ∧ l_st M M1 ∧ a_fr l_wQ M M1 := by
  obtain ⟨r, M', k, h⟩ := l_closs (al := al) hJ.1 hp hc
  have j16 : ∀ M1, E_V 272 18 [8, p, c, al, 213, 0] M1 = some (0, M1) := by
    intro M1
    rw [E_V_eq]
    show e_tv E_C (E_V 272) e_t272_18 [8, p, c, al, 213, 0] M1 = _
    unfold e_t272_18
    simp [zq_a, zq_b, zq_c, zq_d, zq_e, zq_f, zq_g, zq_h, zq_i, zq_j, zq_k, zq_l, zq_m, zq_n, zq_o, zq_p, zq_q, zq_r, zq_s, zq_t, zq_u, zq_v, zq_w, zq_x, zq_y, zq_z, zq_A, zq_B, zq_C, zq_D, zq_E, zq_F, zq_G, zq_H, zq_I, zq_J, zq_K, zq_L, ↓zq_M, ↓zq_N, ↓zq_O, ↓zq_P, ↓zq_Q, ↓zq_R, zq_S, zq_T, zq_U, zq_V, zq_W, zq_X, zq_Y, zq_Z, zq_0, zq_1, zq_2, zq_3, zq_4, zq_5, ↓zq_6, ↓zq_7, ↓zq_8, ↓zq_9, ↓zq_aa, zq_ab, zq_ac, zq_ad, zq_ae, zq_af, zq_ag, ↓zq_ah, ↓zq_ai, ↓zq_aj, zq_ak, ↓zq_al, ↓zq_am, e_b1, e_b2, x_o1, x_o2]
  rcases h with ⟨h1, h2, h3⟩ | ⟨h1, h2⟩
  · have n := l_TH r h1
    have s1 := l_cl hJ h2 h3 (by decide +kernel)
    have s2 := l_J213 s1.1 h1
    refine ⟨0, e_up M' 213 0 r, ?_, l_st_s0 (l_s0_st s1) s2, l_F1 h3 (by decide +kernel)⟩
    rw [l_ent (show e_rok 272 [8, p, c, al, 213] = true from rfl)]
    show e_tv E_C (E_V 272) e_t272_0 [8, p, c, al, 213, 0] M = _
    unfold e_t272_0
    simp [zq_a, zq_b, zq_c, zq_d, zq_e, zq_f, zq_g, zq_h, zq_i, zq_j, zq_k, zq_l, zq_m, zq_n, zq_o, zq_p, zq_q, zq_r, zq_s, zq_t, zq_u, zq_v, zq_w, zq_x, zq_y, zq_z, zq_A, zq_B, zq_C, zq_D, zq_E, zq_F, zq_G, zq_H, zq_I, zq_J, zq_K, zq_L, ↓zq_M, ↓zq_N, ↓zq_O, ↓zq_P, ↓zq_Q, ↓zq_R, zq_S, zq_T, zq_U, zq_V, zq_W, zq_X, zq_Y, zq_Z, zq_0, zq_1, zq_2, zq_3, zq_4, zq_5, ↓zq_6, ↓zq_7, ↓zq_8, ↓zq_9, ↓zq_aa, zq_ab, zq_ac, zq_ad, zq_ae, zq_af, zq_ag, ↓zq_ah, ↓zq_ai, ↓zq_aj, zq_ak, ↓zq_al, ↓zq_am, e_b1, e_b2, x_o1, x_o2, k, n.1, n.2, l_st213, j16]
  · subst h2
    refine ⟨1, c_thr M, ?_, l_thr hJ, l_F2⟩
    rw [l_ent (show e_rok 272 [8, p, c, al, 213] = true from rfl)]
    show e_tv E_C (E_V 272) e_t272_0 [8, p, c, al, 213, 0] M = _
    unfold e_t272_0
    simp [zq_a, zq_b, zq_c, zq_d, zq_e, zq_f, zq_g, zq_h, zq_i, zq_j, zq_k, zq_l, zq_m, zq_n, zq_o, zq_p, zq_q, zq_r, zq_s, zq_t, zq_u, zq_v, zq_w, zq_x, zq_y, zq_z, zq_A, zq_B, zq_C, zq_D, zq_E, zq_F, zq_G, zq_H, zq_I, zq_J, zq_K, zq_L, ↓zq_M, ↓zq_N, ↓zq_O, ↓zq_P, ↓zq_Q, ↓zq_R, zq_S, zq_T, zq_U, zq_V, zq_W, zq_X, zq_Y, zq_Z, zq_0, zq_1, zq_2, zq_3, zq_4, zq_5, ↓zq_6, ↓zq_7, ↓zq_8, ↓zq_9, ↓zq_aa, zq_ab, zq_ac, zq_ad, zq_ae, zq_af, zq_ag, ↓zq_ah, ↓zq_ai, ↓zq_aj, zq_ak, ↓zq_al, ↓zq_am, e_b1, e_b2, x_o1, x_o2, k, h1]
theorem l_elementF {d i : Int} {M : EM} (hJ : r_J M) (hd : -2147483648 ≤ d ∧ d ≤ 2147483647) (hi : -2147483648 ≤ i ∧ i ≤ 2147483647) : ∃ r M1, E_C 273 [8, d, i, 213] M = some (r, M1) ∧ l_st M M1 ∧ a_fr l_wQ M M1 := by
  obtain ⟨r, M', k, h⟩ := c_element hJ.1 hd hi
  have j16 : ∀ M1, E_V 273 20 [8, d, i, 213, 0] M1 = some (0, M1) := by
    intro M1
    rw [E_V_eq]
    show e_tv E_C (E_V 273) e_t273_20 [8, d, i, 213, 0] M1 = _
    unfold e_t273_20
    simp [zq_a, zq_b, zq_c, zq_d, zq_e, zq_f, zq_g, zq_h, zq_i, zq_j, zq_k, zq_l, zq_m, zq_n, zq_o, zq_p, zq_q, zq_r, zq_s, zq_t, zq_u, zq_v, zq_w, zq_x, zq_y, zq_z, zq_A, zq_B, zq_C, zq_D, zq_E, zq_F, zq_G, zq_H, zq_I, zq_J, zq_K, zq_L, ↓zq_M, ↓zq_N, ↓zq_O, ↓zq_P, ↓zq_Q, ↓zq_R, zq_S, zq_T, zq_U, zq_V, zq_W, zq_X, zq_Y, zq_Z, zq_0, zq_1, zq_2, zq_3, zq_4, zq_5, ↓zq_6, ↓zq_7, ↓zq_8, ↓zq_9, ↓zq_aa, zq_ab, zq_ac, zq_ad, zq_ae, zq_af, zq_ag, ↓zq_ah, ↓zq_ai, ↓zq_aj, zq_ak, ↓zq_al, ↓zq_am, e_b1, e_b2, x_o1, x_o2]
  have e10 : ¬ (e_TH + 1 = e_TH) := by unfold e_TH; decide
  rcases h with ⟨h1, h2, h3⟩ | ⟨h1, h2⟩
  · have h1' := l_T64 h1
    have n := l_TH r h1'
    have s1 := l_cl hJ h2 h3 (by decide +kernel)
    have s2 := l_J213 s1.1 h1'
    refine ⟨0, e_up M' 213 0 r, ?_, l_st_s0 (l_s0_st s1) s2, l_F1 h3 (by decide +kernel)⟩
    rw [l_ent (show e_rok 273 [8, d, i, 213] = true from rfl)]
    show e_tv E_C (E_V 273) e_t273_0 [8, d, i, 213, 0] M = _
    unfold e_t273_0
    simp [zq_a, zq_b, zq_c, zq_d, zq_e, zq_f, zq_g, zq_h, zq_i, zq_j, zq_k, zq_l, zq_m, zq_n, zq_o, zq_p, zq_q, zq_r, zq_s, zq_t, zq_u, zq_v, zq_w, zq_x, zq_y, zq_z, zq_A, zq_B, zq_C, zq_D, zq_E, zq_F, zq_G, zq_H, zq_I, zq_J, zq_K, zq_L, ↓zq_M, ↓zq_N, ↓zq_O, ↓zq_P, ↓zq_Q, ↓zq_R, zq_S, zq_T, zq_U, zq_V, zq_W, zq_X, zq_Y, zq_Z, zq_0, zq_1, zq_2, zq_3, zq_4, zq_5, ↓zq_6, ↓zq_7, ↓zq_8, ↓zq_9, ↓zq_aa, zq_ab, zq_ac, zq_ad, zq_ae, zq_af, zq_ag, ↓zq_ah, ↓zq_ai, ↓zq_aj, zq_ak, ↓zq_al, ↓zq_am, e_b1, e_b2, x_o1, x_o2, k, n.1, n.2, l_st213, j16]
  · subst h2
    rcases h1 with h1 | h1
    · refine ⟨1, c_thr M, ?_, l_thr hJ, l_F2⟩
      rw [l_ent (show e_rok 273 [8, d, i, 213] = true from rfl)]
      show e_tv E_C (E_V 273) e_t273_0 [8, d, i, 213, 0] M = _
      unfold e_t273_0
      simp [zq_a, zq_b, zq_c, zq_d, zq_e, zq_f, zq_g, zq_h, zq_i, zq_j, zq_k, zq_l, zq_m, zq_n, zq_o, zq_p, zq_q, zq_r, zq_s, zq_t, zq_u, zq_v, zq_w, zq_x, zq_y, zq_z, zq_A, zq_B, zq_C, zq_D, zq_E, zq_F, zq_G, zq_H, zq_I, zq_J, zq_K, zq_L, ↓zq_M, ↓zq_N, ↓zq_O, ↓zq_P, ↓zq_Q, ↓zq_R, zq_S, zq_T, zq_U, zq_V, zq_W, zq_X, zq_Y, zq_Z, zq_0, zq_1, zq_2, zq_3, zq_4, zq_5, ↓zq_6, ↓zq_7, ↓zq_8, ↓zq_9, ↓zq_aa, zq_ab, zq_ac, zq_ad, zq_ae, zq_af, zq_ag, ↓zq_ah, ↓zq_ai, ↓zq_aj, zq_ak, ↓zq_al, ↓zq_am, e_b1, e_b2, x_o1, x_o2, k, h1]
    · refine ⟨2, c_thr M, ?_, l_thr hJ, l_F2⟩
      rw [l_ent (show e_rok 273 [8, d, i, 213] = true from rfl)]
      show e_tv E_C (E_V 273) e_t273_0 [8, d, i, 213, 0] M = _
      unfold e_t273_0
      simp [zq_a, zq_b, zq_c, zq_d, zq_e, zq_f, zq_g, zq_h, zq_i, zq_j, zq_k, zq_l, zq_m, zq_n, zq_o, zq_p, zq_q, zq_r, zq_s, zq_t, zq_u, zq_v, zq_w, zq_x, zq_y, zq_z, zq_A, zq_B, zq_C, zq_D, zq_E, zq_F, zq_G, zq_H, zq_I, zq_J, zq_K, zq_L, ↓zq_M, ↓zq_N, ↓zq_O, ↓zq_P, ↓zq_Q, ↓zq_R, zq_S, zq_T, zq_U, zq_V, zq_W, zq_X, zq_Y, zq_Z, zq_0, zq_1, zq_2, zq_3, zq_4, zq_5, ↓zq_6, ↓zq_7, ↓zq_8, ↓zq_9, ↓zq_aa, zq_ab, zq_ac, zq_ad, zq_ae, zq_af, zq_ag, ↓zq_ah, ↓zq_ai, ↓zq_aj, zq_ak, ↓zq_al, ↓zq_am, e_b1, e_b2, x_o1, x_o2, k, h1, e10]
end
