section
/-! the reference makes a ROW: exactly -/
def y_XG (b : Nat → Int) (n : Nat) (G D : Nat → Int) : Prop := ∀ k, k < n → w_N b k → G (w_T b k 8).toNat = w_T b k 6 - 1 ∧ D (w_T b k 8).toNat = w_T b k 5
/-- the groups of the first i numbers: in order, none left out -/
def y_gp (G : Nat → Int) (f i : Nat) (last : Int) : Prop := (i = 0 → last = -1) ∧ (0 < i → G f = 0 ∧ G (f + (i - 1)) = last) ∧ (∀ j, j + 1 < i → G (f + (j + 1)) = G (f + j) ∨ G (f + (j + 1)) = G (f + j) + 1)
theorem y_gp_up {G : Nat → Int} {f i : Nat} {last l' : Int} (h : y_gp G f i last) (e : G (f + i) = l') (hl : l' = last + 1 ∨ (l' = last ∧ 0 < i)) : y_gp G f (i + 1) l' := by
  obtain ⟨a1, a2, a3⟩ := h
  refine ⟨fun h => by omega, fun _ => ⟨?_, by rw [show i + 1 - 1 = i by omega]; exact e⟩, fun j hj => ?_⟩
  · by_cases c : i = 0
    · have := a1 c
      subst c
      rw [show f + 0 = f from rfl] at e
      omega
    · exact (a2 (by omega)).1
  · by_cases c : j + 1 = i
    · have a4 := (a2 (by omega)).2
      rw [show i - 1 = j by omega] at a4
      rw [c, e, a4]
      omega
    · exact a3 j (by omega)
def y_IR (g0 : Int → Int) (p : Nat) (Q : Int → Prop) (X G D : Nat → Int) (f i gr : Nat) (M : EM) (x2 x4 : Int) : Prop := (0 ≤ x2 ∧ x2 ≤ 8) ∧ ((x4 = 1 ∧ x2 = i ∧ i ≤ 8 ∧ (∀ j, j < i → y_J g0 p Q X f j) ∧ y_mr g0 (r_G M) p X f i ∧ (∀ j, j < i → r_G M (28 * (p : Int) + 11 + j) = G (f + j) ∧ (G (f + j) < gr → r_G M (28 * (p : Int) + 20 + G (f + j)) = D (f + j))) ∧ y_bl g0 (r_G M) p (fun x => (3 ≤ x ∧ x < 3 + i) ∨ (11 ≤ x ∧ x < 11 + i) ∨ (20 ≤ x ∧ x < 20 + gr))) ∨ (x4 = 0 ∧ ∃ j, j < i ∧ (¬ y_J g0 p Q X f j ∨ 8 ≤ j)))
/-- what is told of groups and diodes up to number i: those of group gr have the diode d -/
def y_gd (G D : Nat → Int) (f i gr : Nat) (d : Int) : Prop := ∀ j, j < i → 0 ≤ G (f + j) ∧ G (f + j) ≤ gr ∧ (G (f + j) = gr → D (f + j) = d)
def y_RE (b : Nat → Int) (n : Nat) (N : EM) (g0 : Int → Int) (p : Nat) (Q : Int → Prop) (X G D : Nat → Int) (f k i : Nat) (o : EO) : Prop := ∃ r M' k' l gr, o = some (r, M') ∧ y_B b n k' M' ∧ y_fr N M' ∧ k < k' ∧ k' < n ∧ b k' = 59 ∧ y_rd b n k' ∧ w_T b k' 5 = 0 ∧ w_T b k' 3 = 114 ∧ w_T b k' 7 = w_T b (k + 1) 7 ∧ i < l ∧ w_T b k' 8 = ((f + l : Nat) : Int) ∧ w_T b k' 6 = ((gr : Nat) : Int) ∧ y_gp G f l ((gr : Int) - 1) ∧ gr ≤ l ∧ ((r = 1 ∧ l ≤ 8 ∧ (∀ j, j < l → y_J g0 p Q X f j) ∧ y_mr g0 (r_G M') p X f l ∧ (∀ j, j < l → r_G M' (28 * (p : Int) + 11 + j) = G (f + j) ∧ r_G M' (28 * (p : Int) + 20 + G (f + j)) = D (f + j)) ∧ r_G M' (28 * (p : Int)) = g0 (28 * (p : Int)) ∧ r_G M' (28 * (p : Int) + 1) = g0 (28 * (p : Int) + 1) ∧ r_G M' (28 * (p : Int) + 2) = l ∧ r_G M' (28 * (p : Int) + 19) = gr) ∨ (r = 0 ∧ ∃ j, j < l ∧ (¬ y_J g0 p Q X f j ∨ 8 ≤ j)))
section YR
variable {b : Nat → Int} {n : Nat} {p : Nat} {N : EM} {X G D : Nat → Int} {g0 : Int → Int} {f : Nat} {Q : Int → Prop}
def y_RH (b : Nat → Int) (n : Nat) (p : Nat) (Q : Int → Prop) (N : EM) (X G D : Nat → Int) (g0 : Int → Int) (f k0 : Nat) : Prop := ∀ (k : Nat) (M : EM) (x2 x4 x5 x6 x7 : Int) (i gr : Nat), k0 < k → y_B b n k M → k < n → y_fr N M → w_T b (k + 1) 2 = 1 → w_T b (k + 1) 3 = 114 → w_T b (k + 1) 5 = 0 → w_T b (k + 1) 8 = ((f + i : Nat) : Int) → w_T b (k + 1) 6 = (gr : Int) + 1 → y_IR g0 p Q X G D f i gr M x2 x4 → (∀ j, j < i → 0 ≤ G (f + j) ∧ G (f + j) < gr) → y_gp G f i ((gr : Int) - 1) → gr ≤ i → (∀ x : Int, 0 ≤ x → x < p → g0 (28 * x) = r_G M (28 * x)) → y_RE b n N g0 p Q X G D f k i (E_V 186 7 [192, (p : Int), x2, (gr : Int), x4, x5, x6, x7] M)
theorem y_r195 (hA : w_A b n) (hz : w_T b n 2 = 0) (hp : p < 40) {k0 : Nat} (hH : y_RH b n p Q N X G D g0 f k0) {k : Nat} {M : EM} {x2 x4 x5 x6 x7 : Int} {i gr : Nat} (hk0 : k0 < k) (hB : y_B b n k M) (hf : y_fr N M) (rd : y_rd b n k) (h3 : w_T b k 3 = 114) (h5 : w_T b k 5 = 0) (h8 : w_T b k 8 = ((f + i : Nat) : Int)) (h6 : w_T b k 6 = (gr : Int) + 1) (hI : y_IR g0 p Q X G D f i (gr + 1) M x2 x4) (hG : ∀ j, j < i → 0 ≤ G (f + j) ∧ G (f + j) ≤ gr) (hgp : y_gp G f i gr) (hgi : gr + 1 ≤ i) (hkd : ∀ x : Int, 0 ≤ x → x < p → g0 (28 * x) = r_G M (28 * x)) {i0 : Nat} (hi0 : i0 < i) (h7 : w_T b k 7 = w_T b (k0 + 1) 7) : y_RE b n N g0 p Q X G D f k0 i0 (E_V 186 195 [192, (p : Int), x2, (gr : Int), x4, x5, x6, x7] M) := by
  have hkn := hB.2.2.1
  have hn120 := hB.2.2.2.2.1
  obtain ⟨hl, sg⟩ := y_sig hA hz hkn rd
  have A1 := w_Al hA hkn
  have ksg := r_sign (y_ty hB)
  rw [y_sg hB, y_sb hl] at ksg
  have i120 : i ≤ 120 := by
    have := w_Ii A1
    unfold w_I at this
    omega
  have w0 : e_w ((gr : Int) + 1) = ((gr + 1 : Nat) : Int) := by
    clear ksg sg hI hkd hG hgp
    exact (a_w_id (by omega) (by omega)).trans (by omega)
  by_cases c : b k = 32
  · obtain ⟨a1, a2, a3, a4, a5, a6, a7, a8⟩ := y_spc A1 rd hl c (by clear w0; omega) (by clear w0; omega)
    rw [if_pos h5] at a6
    obtain ⟨r, M', k', l, gr', u1, u2, u3, u4, u5, u6, u7, u8, u9, u10, u11, u12⟩ := hH k M x2 x4 x5 x6 x7 i (gr + 1) hk0 hB hl hf a2 (by clear w0; omega) (by clear w0; omega) (by clear w0; omega) (by clear w0; omega) hI (fun j hj => ⟨(hG j hj).1, by have := (hG j hj).2; clear w0; omega⟩) (by
      rw [show (((gr + 1 : Nat) : Int) - 1) = gr by clear w0; omega]
      exact hgp) hgi hkd
    refine ⟨r, M', k', l, gr', ?_, u2, u3, by clear w0; omega, u5, u6, u7, u8, u9, by clear w0; omega, by clear w0; omega, u12⟩
    rw [c] at ksg
    generalize ((gr + 1 : Nat) : Int) = y at w0 u1
    clear hH
    rw [E_V_eq]
    show e_tv E_C (E_V 186) e_t186_195 [192, (p : Int), x2, (gr : Int), x4, x5, x6, x7] M = _
    unfold e_t186_195
    simp [zq_a, zq_b, zq_c, zq_d, zq_e, zq_f, zq_g, zq_h, zq_i, zq_j, zq_k, zq_l, zq_m, zq_n, zq_o, zq_p, zq_q, zq_r, zq_s, zq_t, zq_u, zq_v, zq_w, zq_x, zq_y, zq_z, zq_A, zq_B, zq_C, zq_D, zq_E, zq_F, zq_G, zq_H, zq_I, zq_J, zq_K, zq_L, ↓zq_M, ↓zq_N, ↓zq_O, ↓zq_P, ↓zq_Q, ↓zq_R, zq_S, zq_T, zq_U, zq_V, zq_W, zq_X, zq_Y, zq_Z, zq_0, zq_1, zq_2, zq_3, zq_4, zq_5, ↓zq_6, ↓zq_7, ↓zq_8, ↓zq_9, ↓zq_aa, zq_ab, zq_ac, zq_ad, zq_ae, zq_af, zq_ag, ↓zq_ah, ↓zq_ai, ↓zq_aj, zq_ak, ↓zq_al, ↓zq_am, e_b1, e_b2, x_o1, x_o2, w0, ksg, u1]
  · have c59 : b k = 59 := by clear w0; omega
    obtain ⟨i1, i2⟩ := hI
    have b1 : 0 ≤ 28 * (p : Int) + 2 ∧ 28 * (p : Int) + 2 < 1330 := by clear w0; omega
    have b2 : 0 ≤ 28 * (p : Int) + 19 ∧ 28 * (p : Int) + 19 < 1330 := by clear w0; omega
    have hk1 : 28 * (p : Int) + 2 ≥ 1 := by clear w0; omega
    have hk2 : 28 * (p : Int) + 19 ≥ 1 := by clear w0; omega
    obtain ⟨L, hL⟩ : ∃ L : Int, L = if gr + 1 < 8 then ((gr + 1 : Nat) : Int) else 8 := ⟨_, rfl⟩
    have hL2 : (gr + 1 ≤ 8 → L = ((gr + 1 : Nat) : Int)) ∧ 0 ≤ L ∧ L ≤ 8 := by
      rw [hL]
      clear w0
      split <;> omega
    have les : ∀ M, E_C 174 [((gr + 1 : Nat) : Int), 8] M = some (L, M) := by
      intro M
      rw [hL]
      rcases x_lt (gr + 1) 8 with ⟨q, q_n⟩ | ⟨q, q_n⟩
      · rw [if_pos (by clear w0; omega)]
        have q' : ((gr + 1 : Nat) : Int) < 8 := by clear w0; omega
        generalize ((gr + 1 : Nat) : Int) = y at q' ⊢
        rw [r_ent (show e_rok 174 [y, 8] = true from rfl)]
        show e_tv E_C (E_V 174) e_t174_0 [y, 8] M = _
        unfold e_t174_0
        simp [zq_a, zq_b, zq_c, zq_d, zq_e, zq_f, zq_g, zq_h, zq_i, zq_j, zq_k, zq_l, zq_m, zq_n, zq_o, zq_p, zq_q, zq_r, zq_s, zq_t, zq_u, zq_v, zq_w, zq_x, zq_y, zq_z, zq_A, zq_B, zq_C, zq_D, zq_E, zq_F, zq_G, zq_H, zq_I, zq_J, zq_K, zq_L, ↓zq_M, ↓zq_N, ↓zq_O, ↓zq_P, ↓zq_Q, ↓zq_R, zq_S, zq_T, zq_U, zq_V, zq_W, zq_X, zq_Y, zq_Z, zq_0, zq_1, zq_2, zq_3, zq_4, zq_5, ↓zq_6, ↓zq_7, ↓zq_8, ↓zq_9, ↓zq_aa, zq_ab, zq_ac, zq_ad, zq_ae, zq_af, zq_ag, ↓zq_ah, ↓zq_ai, ↓zq_aj, zq_ak, ↓zq_al, ↓zq_am, e_b1, e_b2, x_o1, x_o2, q']
      · rw [if_neg (by clear w0; omega)]
        have q' : ¬ (((gr + 1 : Nat) : Int) < 8) := by clear w0; omega
        generalize ((gr + 1 : Nat) : Int) = y at q' ⊢
        rw [r_ent (show e_rok 174 [y, 8] = true from rfl)]
        show e_tv E_C (E_V 174) e_t174_0 [y, 8] M = _
        unfold e_t174_0
        simp [zq_a, zq_b, zq_c, zq_d, zq_e, zq_f, zq_g, zq_h, zq_i, zq_j, zq_k, zq_l, zq_m, zq_n, zq_o, zq_p, zq_q, zq_r, zq_s, zq_t, zq_u, zq_v, zq_w, zq_x, zq_y, zq_z, zq_A, zq_B, zq_C, zq_D, zq_E, zq_F, zq_G, zq_H, zq_I, zq_J, zq_K, zq_L, ↓zq_M, ↓zq_N, ↓zq_O, ↓zq_P, ↓zq_Q, ↓zq_R, zq_S, zq_T, zq_U, zq_V, zq_W, zq_X, zq_Y, zq_Z, zq_0, zq_1, zq_2, zq_3, zq_4, zq_5, ↓zq_6, ↓zq_7, ↓zq_8, ↓zq_9, ↓zq_aa, zq_ab, zq_ac, zq_ad, zq_ae, zq_af, zq_ag, ↓zq_ah, ↓zq_ai, ↓zq_aj, zq_ak, ↓zq_al, ↓zq_am, e_b1, e_b2, x_o1, x_o2, q']
    have s1 := fun v => r_stw (i := 28 * (p : Int) + 2) (v := v) (M := M) b1.1 b1.2
    have s2 := fun v M => r_stw (i := 28 * (p : Int) + 19) (v := v) (M := M) b2.1 b2.2
    have H2 : r_G (e_up (e_up M 193 (28 * (p : Int) + 2).toNat x2) 193 (28 * (p : Int) + 19).toNat L) (28 * (p : Int) + 2) = x2 := (r_G_n hk2 (by clear w0; omega)).trans r_G_s
    have H9 : r_G (e_up (e_up M 193 (28 * (p : Int) + 2).toNat x2) 193 (28 * (p : Int) + 19).toNat L) (28 * (p : Int) + 19) = L := r_G_s
    have H : ∀ x, x ≠ 28 * (p : Int) + 2 → x ≠ 28 * (p : Int) + 19 → r_G (e_up (e_up M 193 (28 * (p : Int) + 2).toNat x2) 193 (28 * (p : Int) + 19).toNat L) x = r_G M x := fun x x1 x2 => (r_G_n hk2 x2).trans (r_G_n hk1 x1)
    have BN : y_B b n k (e_up (e_up M 193 (28 * (p : Int) + 2).toNat x2) 193 (28 * (p : Int) + 19).toNat L) := y_Bw (y_Bw hB ⟨by clear w0; omega, by clear w0; omega⟩) ⟨by clear w0; omega, by clear w0; omega⟩
    have fN : y_fr N (e_up (e_up M 193 (28 * (p : Int) + 2).toNat x2) 193 (28 * (p : Int) + 19).toNat L) := y_frw (y_frw hf)
    obtain ⟨N1, hN1⟩ : ∃ N1, N1 = e_up (e_up M 193 (28 * (p : Int) + 2).toNat x2) 193 (28 * (p : Int) + 19).toNat L := ⟨_, rfl⟩
    rw [← hN1] at H2 H9 H BN fN
    have hN1' := hN1.symm
    refine ⟨x4, N1, k, i, gr + 1, ?_, BN, fN, hk0, hl, c59, rd, h5, h3, h7, hi0, h8, by clear w0; omega, by
      rw [show (((gr + 1 : Nat) : Int) - 1) = gr by clear w0; omega]
      exact hgp, hgi, ?_⟩
    · rw [c59] at ksg
      have wp : e_w (28 * (p : Int)) = 28 * (p : Int) ∧ e_w (28 * (p : Int) + 2) = 28 * (p : Int) + 2 ∧ e_w (28 * (p : Int) + 19) = 28 * (p : Int) + 19 := by
        clear w0 ksg s1 s2 H H2 H9 hN1 hN1' i2 hkd hG hgp sg
        refine ⟨?_, ?_, ?_⟩ <;> exact a_w_id (by omega) (by omega)
      obtain ⟨v1, v2, v3⟩ := wp
      generalize ((gr + 1 : Nat) : Int) = y at w0 les
      obtain ⟨ia, hia⟩ : ∃ ia, 28 * (p : Int) + 2 = ia := ⟨_, rfl⟩
      obtain ⟨ib, hib⟩ : ∃ ib, 28 * (p : Int) + 19 = ib := ⟨_, rfl⟩
      have v2 := v2.trans hia
      have v3 := v3.trans hib
      rw [hia] at s1 hN1'
      rw [hib] at s2 hN1'
      generalize ia.toNat = na at s1 hN1'
      generalize ib.toNat = nb at s2 hN1'
      clear hH
      rw [E_V_eq]
      show e_tv E_C (E_V 186) e_t186_195 [192, (p : Int), x2, (gr : Int), x4, x5, x6, x7] M = _
      unfold e_t186_195
      simp [zq_a, zq_b, zq_c, zq_d, zq_e, zq_f, zq_g, zq_h, zq_i, zq_j, zq_k, zq_l, zq_m, zq_n, zq_o, zq_p, zq_q, zq_r, zq_s, zq_t, zq_u, zq_v, zq_w, zq_x, zq_y, zq_z, zq_A, zq_B, zq_C, zq_D, zq_E, zq_F, zq_G, zq_H, zq_I, zq_J, zq_K, zq_L, ↓zq_M, ↓zq_N, ↓zq_O, ↓zq_P, ↓zq_Q, ↓zq_R, zq_S, zq_T, zq_U, zq_V, zq_W, zq_X, zq_Y, zq_Z, zq_0, zq_1, zq_2, zq_3, zq_4, zq_5, ↓zq_6, ↓zq_7, ↓zq_8, ↓zq_9, ↓zq_aa, zq_ab, zq_ac, zq_ad, zq_ae, zq_af, zq_ag, ↓zq_ah, ↓zq_ai, ↓zq_aj, zq_ak, ↓zq_al, ↓zq_am, e_b1, e_b2, x_o1, x_o2, r_O0, w0, ksg, v1, v2, v3, s1, s2, les, hN1']
    · clear w0
      rcases i2 with ⟨e1, e2, e3, e4, e5, e6, e7⟩ | ⟨e1, e2⟩
      · refine Or.inl ⟨e1, e3, e4, ⟨fun j hj => ?_, fun x x0 hx hn => ?_⟩, fun j hj => ?_, ?_, ?_, ?_, ?_⟩
        · obtain ⟨v1, v2⟩ := e5.1 j hj
          have hj2 := (e4 j hj).1
          exact ⟨(H _ (by omega) (by omega)).trans v1, (H _ (by omega) (by omega)).trans v2⟩
        · exact (H _ (by omega) (by omega)).trans (e5.2 x x0 hx hn)
        · obtain ⟨v1, v2⟩ := e6 j hj
          have hg := hG j hj
          exact ⟨(H _ (by omega) (by omega)).trans v1, (H _ (by omega) (by omega)).trans (v2 (by omega))⟩
        · rw [H _ (by omega) (by omega)]
          have := e7 0 (by decide) (by decide) (by omega)
          rw [Int.add_zero] at this
          exact this
        · rw [H _ (by omega) (by omega)]
          exact e7 1 (by decide) (by decide) (by omega)
        · rw [H2, e2]
        · rw [H9, hL2.1 (by omega)]
      · exact Or.inr ⟨e1, e2⟩
end YR
end
section
/-! the reference makes a ROW: its items -/
theorem y_l166 {P x2 gr x5 x6 x7 ia : Int} {na : Nat} {M : EM} (v1 : e_w (28 * P) = 28 * P) (v2 : e_w (28 * P + 20) = 28 * P + 20) (v3 : e_w (28 * P + 20 + gr) = ia) (s1 : ∀ v, e_st 100 [193, ia, v] M = some (e_up M 193 na v)) (h5 : x5 = 0 ∨ x5 = 1) : E_V 186 166 [192, P, x2, gr, 1, x5, x6, x7] M = E_V 186 195 [192, P, x2, gr, 1, x5, x6, x7] (e_up M 193 na x5) := by
  rcases h5 with h5 | h5
  · subst h5
    rw [E_V_eq]
    show e_tv E_C (E_V 186) e_t186_166 [192, P, x2, gr, 1, 0, x6, x7] M = _
    unfold e_t186_166
    simp [zq_a, zq_b, zq_c, zq_d, zq_e, zq_f, zq_g, zq_h, zq_i, zq_j, zq_k, zq_l, zq_m, zq_n, zq_o, zq_p, zq_q, zq_r, zq_s, zq_t, zq_u, zq_v, zq_w, zq_x, zq_y, zq_z, zq_A, zq_B, zq_C, zq_D, zq_E, zq_F, zq_G, zq_H, zq_I, zq_J, zq_K, zq_L, ↓zq_M, ↓zq_N, ↓zq_O, ↓zq_P, ↓zq_Q, ↓zq_R, zq_S, zq_T, zq_U, zq_V, zq_W, zq_X, zq_Y, zq_Z, zq_0, zq_1, zq_2, zq_3, zq_4, zq_5, ↓zq_6, ↓zq_7, ↓zq_8, ↓zq_9, ↓zq_aa, zq_ab, zq_ac, zq_ad, zq_ae, zq_af, zq_ag, ↓zq_ah, ↓zq_ai, ↓zq_aj, zq_ak, ↓zq_al, ↓zq_am, e_b1, e_b2, x_o1, x_o2, r_O0, v1, v2, v3, s1]
  · subst h5
    rw [E_V_eq]
    show e_tv E_C (E_V 186) e_t186_166 [192, P, x2, gr, 1, 1, x6, x7] M = _
    unfold e_t186_166
    simp [zq_a, zq_b, zq_c, zq_d, zq_e, zq_f, zq_g, zq_h, zq_i, zq_j, zq_k, zq_l, zq_m, zq_n, zq_o, zq_p, zq_q, zq_r, zq_s, zq_t, zq_u, zq_v, zq_w, zq_x, zq_y, zq_z, zq_A, zq_B, zq_C, zq_D, zq_E, zq_F, zq_G, zq_H, zq_I, zq_J, zq_K, zq_L, ↓zq_M, ↓zq_N, ↓zq_O, ↓zq_P, ↓zq_Q, ↓zq_R, zq_S, zq_T, zq_U, zq_V, zq_W, zq_X, zq_Y, zq_Z, zq_0, zq_1, zq_2, zq_3, zq_4, zq_5, ↓zq_6, ↓zq_7, ↓zq_8, ↓zq_9, ↓zq_aa, zq_ab, zq_ac, zq_ad, zq_ae, zq_af, zq_ag, ↓zq_ah, ↓zq_ai, ↓zq_aj, zq_ak, ↓zq_al, ↓zq_am, e_b1, e_b2, x_o1, x_o2, r_O0, v1, v2, v3, s1]
theorem y_l166n {P x2 gr x5 x6 x7 : Int} {M : EM} : E_V 186 166 [192, P, x2, gr, 0, x5, x6, x7] M = E_V 186 195 [192, P, x2, gr, 0, x5, x6, x7] M := by
  rw [E_V_eq]
  show e_tv E_C (E_V 186) e_t186_166 [192, P, x2, gr, 0, x5, x6, x7] M = _
  unfold e_t186_166
  simp [zq_a, zq_b, zq_c, zq_d, zq_e, zq_f, zq_g, zq_h, zq_i, zq_j, zq_k, zq_l, zq_m, zq_n, zq_o, zq_p, zq_q, zq_r, zq_s, zq_t, zq_u, zq_v, zq_w, zq_x, zq_y, zq_z, zq_A, zq_B, zq_C, zq_D, zq_E, zq_F, zq_G, zq_H, zq_I, zq_J, zq_K, zq_L, ↓zq_M, ↓zq_N, ↓zq_O, ↓zq_P, ↓zq_Q, ↓zq_R, zq_S, zq_T, zq_U, zq_V, zq_W, zq_X, zq_Y, zq_Z, zq_0, zq_1, zq_2, zq_3, zq_4, zq_5, ↓zq_6, ↓zq_7, ↓zq_8, ↓zq_9, ↓zq_aa, zq_ab, zq_ac, zq_ad, zq_ae, zq_af, zq_ag, ↓zq_ah, ↓zq_ai, ↓zq_aj, zq_ak, ↓zq_al, ↓zq_am, e_b1, e_b2, x_o1, x_o2]
theorem y_l28a {P gr d I x7 Qv ia ib ic : Int} {na nb nc : Nat} {M M2 N1 : EM} (g2 : E_C 179 [192] M = some (1, M2)) (hq : M2 192 18 = Qv) (c1i : I < 8) (k5 : E_C 185 [192, Qv, P, 1] M2 = some (1, M2)) (v1 : e_w (28 * P) = 28 * P) (v2 : e_w (28 * P + 3) = 28 * P + 3) (v3 : e_w (28 * P + 3 + I) = ia) (v8 : e_w (28 * P + 11) = 28 * P + 11) (v9 : e_w (28 * P + 11 + I) = ic) (v4 : e_w (28 * Qv) = 28 * Qv) (v5 : e_w (28 * Qv + 1) = ib) (v6 : e_w (I + 1) = I + 1) (v7 : e_w (P + 1) = P + 1) (s1 : ∀ v, e_st 100 [193, ia, v] M2 = some (e_up M2 193 na v)) (s3 : ∀ v M, e_st 100 [193, ic, v] M = some (e_up M 193 nc v)) (s2 : ∀ v M, e_st 100 [193, ib, v] M = some (e_up M 193 nb v)) (hN1' : e_up (e_up (e_up M2 193 na Qv) 193 nc gr) 193 nb (P + 1) = N1) : E_V 186 28 [192, P, I, gr, 1, d, 1, x7] M = E_V 186 127 [192, P, I + 1, gr, 1, d, 1, 1] N1 := by
  rw [E_V_eq]
  show e_tv E_C (E_V 186) e_t186_28 [192, P, I, gr, 1, d, 1, x7] M = _
  unfold e_t186_28
  simp [zq_a, zq_b, zq_c, zq_d, zq_e, zq_f, zq_g, zq_h, zq_i, zq_j, zq_k, zq_l, zq_m, zq_n, zq_o, zq_p, zq_q, zq_r, zq_s, zq_t, zq_u, zq_v, zq_w, zq_x, zq_y, zq_z, zq_A, zq_B, zq_C, zq_D, zq_E, zq_F, zq_G, zq_H, zq_I, zq_J, zq_K, zq_L, ↓zq_M, ↓zq_N, ↓zq_O, ↓zq_P, ↓zq_Q, ↓zq_R, zq_S, zq_T, zq_U, zq_V, zq_W, zq_X, zq_Y, zq_Z, zq_0, zq_1, zq_2, zq_3, zq_4, zq_5, ↓zq_6, ↓zq_7, ↓zq_8, ↓zq_9, ↓zq_aa, zq_ab, zq_ac, zq_ad, zq_ae, zq_af, zq_ag, ↓zq_ah, ↓zq_ai, ↓zq_aj, zq_ak, ↓zq_al, ↓zq_am, e_b1, e_b2, x_o1, x_o2, r_O0, r_F15, r_F18, r_P15, y_n192, g2, hq, c1i, k5, v1, v2, v3, v4, v5, v6, v7, v8, v9, s1, s2, s3, hN1']
theorem y_l28b {P gr d x2 x7 : Int} {M M2 : EM} (g2 : E_C 179 [192] M = some (1, M2)) : E_V 186 28 [192, P, x2, gr, 0, d, 1, x7] M = E_V 186 127 [192, P, x2, gr, 0, d, 1, 1] M2 := by
  rw [E_V_eq]
  show e_tv E_C (E_V 186) e_t186_28 [192, P, x2, gr, 0, d, 1, x7] M = _
  unfold e_t186_28
  simp [zq_a, zq_b, zq_c, zq_d, zq_e, zq_f, zq_g, zq_h, zq_i, zq_j, zq_k, zq_l, zq_m, zq_n, zq_o, zq_p, zq_q, zq_r, zq_s, zq_t, zq_u, zq_v, zq_w, zq_x, zq_y, zq_z, zq_A, zq_B, zq_C, zq_D, zq_E, zq_F, zq_G, zq_H, zq_I, zq_J, zq_K, zq_L, ↓zq_M, ↓zq_N, ↓zq_O, ↓zq_P, ↓zq_Q, ↓zq_R, zq_S, zq_T, zq_U, zq_V, zq_W, zq_X, zq_Y, zq_Z, zq_0, zq_1, zq_2, zq_3, zq_4, zq_5, ↓zq_6, ↓zq_7, ↓zq_8, ↓zq_9, ↓zq_aa, zq_ab, zq_ac, zq_ad, zq_ae, zq_af, zq_ag, ↓zq_ah, ↓zq_ai, ↓zq_aj, zq_ak, ↓zq_al, ↓zq_am, e_b1, e_b2, x_o1, x_o2, r_O0, r_F18, g2]
theorem y_l28c {P gr d x2 x7 : Int} {M M2 : EM} (g2 : E_C 179 [192] M = some (1, M2)) (c : ¬ x2 < 8) : E_V 186 28 [192, P, x2, gr, 1, d, 1, x7] M = E_V 186 127 [192, P, x2, gr, 0, d, 1, 1] M2 := by
  rw [E_V_eq]
  show e_tv E_C (E_V 186) e_t186_28 [192, P, x2, gr, 1, d, 1, x7] M = _
  unfold e_t186_28
  simp [zq_a, zq_b, zq_c, zq_d, zq_e, zq_f, zq_g, zq_h, zq_i, zq_j, zq_k, zq_l, zq_m, zq_n, zq_o, zq_p, zq_q, zq_r, zq_s, zq_t, zq_u, zq_v, zq_w, zq_x, zq_y, zq_z, zq_A, zq_B, zq_C, zq_D, zq_E, zq_F, zq_G, zq_H, zq_I, zq_J, zq_K, zq_L, ↓zq_M, ↓zq_N, ↓zq_O, ↓zq_P, ↓zq_Q, ↓zq_R, zq_S, zq_T, zq_U, zq_V, zq_W, zq_X, zq_Y, zq_Z, zq_0, zq_1, zq_2, zq_3, zq_4, zq_5, ↓zq_6, ↓zq_7, ↓zq_8, ↓zq_9, ↓zq_aa, zq_ab, zq_ac, zq_ad, zq_ae, zq_af, zq_ag, ↓zq_ah, ↓zq_ai, ↓zq_aj, zq_ak, ↓zq_al, ↓zq_am, e_b1, e_b2, x_o1, x_o2, r_O0, r_F18, g2, c]
theorem y_l28d {P gr d x2 x7 Qv : Int} {M M2 : EM} (g2 : E_C 179 [192] M = some (1, M2)) (hq : M2 192 18 = Qv) (c : x2 < 8) (k5 : E_C 185 [192, Qv, P, 1] M2 = some (0, M2)) : E_V 186 28 [192, P, x2, gr, 1, d, 1, x7] M = E_V 186 127 [192, P, x2, gr, 0, d, 1, 1] M2 := by
  rw [E_V_eq]
  show e_tv E_C (E_V 186) e_t186_28 [192, P, x2, gr, 1, d, 1, x7] M = _
  unfold e_t186_28
  simp [zq_a, zq_b, zq_c, zq_d, zq_e, zq_f, zq_g, zq_h, zq_i, zq_j, zq_k, zq_l, zq_m, zq_n, zq_o, zq_p, zq_q, zq_r, zq_s, zq_t, zq_u, zq_v, zq_w, zq_x, zq_y, zq_z, zq_A, zq_B, zq_C, zq_D, zq_E, zq_F, zq_G, zq_H, zq_I, zq_J, zq_K, zq_L, ↓zq_M, ↓zq_N, ↓zq_O, ↓zq_P, ↓zq_Q, ↓zq_R, zq_S, zq_T, zq_U, zq_V, zq_W, zq_X, zq_Y, zq_Z, zq_0, zq_1, zq_2, zq_3, zq_4, zq_5, ↓zq_6, ↓zq_7, ↓zq_8, ↓zq_9, ↓zq_aa, zq_ab, zq_ac, zq_ad, zq_ae, zq_af, zq_ag, ↓zq_ah, ↓zq_ai, ↓zq_aj, zq_ak, ↓zq_al, ↓zq_am, e_b1, e_b2, x_o1, x_o2, r_O0, r_F18, g2, hq, c, k5]
theorem y_l127a {P gr x2 x4 x6 x7 : Int} {M : EM} : E_V 186 127 [192, P, x2, gr, x4, 0, x6, x7] M = E_V 186 28 [192, P, x2, gr, x4, 0, 0, x7] M := by
  rw [E_V_eq]
  show e_tv E_C (E_V 186) e_t186_127 [192, P, x2, gr, x4, 0, x6, x7] M = _
  unfold e_t186_127
  simp [zq_a, zq_b, zq_c, zq_d, zq_e, zq_f, zq_g, zq_h, zq_i, zq_j, zq_k, zq_l, zq_m, zq_n, zq_o, zq_p, zq_q, zq_r, zq_s, zq_t, zq_u, zq_v, zq_w, zq_x, zq_y, zq_z, zq_A, zq_B, zq_C, zq_D, zq_E, zq_F, zq_G, zq_H, zq_I, zq_J, zq_K, zq_L, ↓zq_M, ↓zq_N, ↓zq_O, ↓zq_P, ↓zq_Q, ↓zq_R, zq_S, zq_T, zq_U, zq_V, zq_W, zq_X, zq_Y, zq_Z, zq_0, zq_1, zq_2, zq_3, zq_4, zq_5, ↓zq_6, ↓zq_7, ↓zq_8, ↓zq_9, ↓zq_aa, zq_ab, zq_ac, zq_ad, zq_ae, zq_af, zq_ag, ↓zq_ah, ↓zq_ai, ↓zq_aj, zq_ak, ↓zq_al, ↓zq_am, e_b1, e_b2, x_o1, x_o2]
theorem y_l127b {P gr x2 x4 x6 x7 t : Int} {M M' : EM} (k : E_C 178 [192, 32] M = some (t, M')) (ht : t = 0 ∨ t = 1) : E_V 186 127 [192, P, x2, gr, x4, 1, x6, x7] M = E_V 186 28 [192, P, x2, gr, x4, 1, t, x7] M' := by
  rcases ht with ht | ht
  · subst ht
    rw [E_V_eq]
    show e_tv E_C (E_V 186) e_t186_127 [192, P, x2, gr, x4, 1, x6, x7] M = _
    unfold e_t186_127
    simp [zq_a, zq_b, zq_c, zq_d, zq_e, zq_f, zq_g, zq_h, zq_i, zq_j, zq_k, zq_l, zq_m, zq_n, zq_o, zq_p, zq_q, zq_r, zq_s, zq_t, zq_u, zq_v, zq_w, zq_x, zq_y, zq_z, zq_A, zq_B, zq_C, zq_D, zq_E, zq_F, zq_G, zq_H, zq_I, zq_J, zq_K, zq_L, ↓zq_M, ↓zq_N, ↓zq_O, ↓zq_P, ↓zq_Q, ↓zq_R, zq_S, zq_T, zq_U, zq_V, zq_W, zq_X, zq_Y, zq_Z, zq_0, zq_1, zq_2, zq_3, zq_4, zq_5, ↓zq_6, ↓zq_7, ↓zq_8, ↓zq_9, ↓zq_aa, zq_ab, zq_ac, zq_ad, zq_ae, zq_af, zq_ag, ↓zq_ah, ↓zq_ai, ↓zq_aj, zq_ak, ↓zq_al, ↓zq_am, e_b1, e_b2, x_o1, x_o2, k]
  · subst ht
    rw [E_V_eq]
    show e_tv E_C (E_V 186) e_t186_127 [192, P, x2, gr, x4, 1, x6, x7] M = _
    unfold e_t186_127
    simp [zq_a, zq_b, zq_c, zq_d, zq_e, zq_f, zq_g, zq_h, zq_i, zq_j, zq_k, zq_l, zq_m, zq_n, zq_o, zq_p, zq_q, zq_r, zq_s, zq_t, zq_u, zq_v, zq_w, zq_x, zq_y, zq_z, zq_A, zq_B, zq_C, zq_D, zq_E, zq_F, zq_G, zq_H, zq_I, zq_J, zq_K, zq_L, ↓zq_M, ↓zq_N, ↓zq_O, ↓zq_P, ↓zq_Q, ↓zq_R, zq_S, zq_T, zq_U, zq_V, zq_W, zq_X, zq_Y, zq_Z, zq_0, zq_1, zq_2, zq_3, zq_4, zq_5, ↓zq_6, ↓zq_7, ↓zq_8, ↓zq_9, ↓zq_aa, zq_ab, zq_ac, zq_ad, zq_ae, zq_af, zq_ag, ↓zq_ah, ↓zq_ai, ↓zq_aj, zq_ak, ↓zq_al, ↓zq_am, e_b1, e_b2, x_o1, x_o2, k]
theorem y_l28y {P gr x2 x4 x7 : Int} {M : EM} : E_V 186 28 [192, P, x2, gr, x4, 0, 0, x7] M = E_V 186 166 [192, P, x2, gr, x4, 0, 0, x7] M := by
  rw [E_V_eq]
  show e_tv E_C (E_V 186) e_t186_28 [192, P, x2, gr, x4, 0, 0, x7] M = _
  unfold e_t186_28
  simp [zq_a, zq_b, zq_c, zq_d, zq_e, zq_f, zq_g, zq_h, zq_i, zq_j, zq_k, zq_l, zq_m, zq_n, zq_o, zq_p, zq_q, zq_r, zq_s, zq_t, zq_u, zq_v, zq_w, zq_x, zq_y, zq_z, zq_A, zq_B, zq_C, zq_D, zq_E, zq_F, zq_G, zq_H, zq_I, zq_J, zq_K, zq_L, ↓zq_M, ↓zq_N, ↓zq_O, ↓zq_P, ↓zq_Q, ↓zq_R, zq_S, zq_T, zq_U, zq_V, zq_W, zq_X, zq_Y, zq_Z, zq_0, zq_1, zq_2, zq_3, zq_4, zq_5, ↓zq_6, ↓zq_7, ↓zq_8, ↓zq_9, ↓zq_aa, zq_ab, zq_ac, zq_ad, zq_ae, zq_af, zq_ag, ↓zq_ah, ↓zq_ai, ↓zq_aj, zq_ak, ↓zq_al, ↓zq_am, e_b1, e_b2, x_o1, x_o2]
theorem y_l28z {P gr x2 x4 x7 pos k1 : Int} {M : EM} (h15 : M 192 15 = pos) (w1 : e_w (pos + 1) = k1) : E_V 186 28 [192, P, x2, gr, x4, 1, 0, x7] M = E_V 186 166 [192, P, x2, gr, x4, 1, 0, x7] (e_up M 192 15 k1) := by
  rw [E_V_eq]
  show e_tv E_C (E_V 186) e_t186_28 [192, P, x2, gr, x4, 1, 0, x7] M = _
  unfold e_t186_28
  simp [zq_a, zq_b, zq_c, zq_d, zq_e, zq_f, zq_g, zq_h, zq_i, zq_j, zq_k, zq_l, zq_m, zq_n, zq_o, zq_p, zq_q, zq_r, zq_s, zq_t, zq_u, zq_v, zq_w, zq_x, zq_y, zq_z, zq_A, zq_B, zq_C, zq_D, zq_E, zq_F, zq_G, zq_H, zq_I, zq_J, zq_K, zq_L, ↓zq_M, ↓zq_N, ↓zq_O, ↓zq_P, ↓zq_Q, ↓zq_R, zq_S, zq_T, zq_U, zq_V, zq_W, zq_X, zq_Y, zq_Z, zq_0, zq_1, zq_2, zq_3, zq_4, zq_5, ↓zq_6, ↓zq_7, ↓zq_8, ↓zq_9, ↓zq_aa, zq_ab, zq_ac, zq_ad, zq_ae, zq_af, zq_ag, ↓zq_ah, ↓zq_ai, ↓zq_aj, zq_ak, ↓zq_al, ↓zq_am, e_b1, e_b2, x_o1, x_o2, r_F15, r_P15, h15, w1]
theorem y_l7 {P gr x2 x4 x5 x6 x7 pos k1 t : Int} {M M1 M' : EM} (h15 : M 192 15 = pos) (w1 : e_w (pos + 1) = k1) (hM1' : e_up M 192 15 k1 = M1) (k : E_C 178 [192, 91] M1 = some (t, M')) : E_V 186 7 [192, P, x2, gr, x4, x5, x6, x7] M = E_V 186 28 [192, P, x2, gr, x4, t, 1, x7] M' := by
  rw [E_V_eq]
  show e_tv E_C (E_V 186) e_t186_7 [192, P, x2, gr, x4, x5, x6, x7] M = _
  unfold e_t186_7
  simp [zq_a, zq_b, zq_c, zq_d, zq_e, zq_f, zq_g, zq_h, zq_i, zq_j, zq_k, zq_l, zq_m, zq_n, zq_o, zq_p, zq_q, zq_r, zq_s, zq_t, zq_u, zq_v, zq_w, zq_x, zq_y, zq_z, zq_A, zq_B, zq_C, zq_D, zq_E, zq_F, zq_G, zq_H, zq_I, zq_J, zq_K, zq_L, ↓zq_M, ↓zq_N, ↓zq_O, ↓zq_P, ↓zq_Q, ↓zq_R, zq_S, zq_T, zq_U, zq_V, zq_W, zq_X, zq_Y, zq_Z, zq_0, zq_1, zq_2, zq_3, zq_4, zq_5, ↓zq_6, ↓zq_7, ↓zq_8, ↓zq_9, ↓zq_aa, zq_ab, zq_ac, zq_ad, zq_ae, zq_af, zq_ag, ↓zq_ah, ↓zq_ai, ↓zq_aj, zq_ak, ↓zq_al, ↓zq_am, e_b1, e_b2, x_o1, x_o2, r_F15, r_P15, h15, w1, hM1', k]
theorem y_k1 {b : Nat → Int} {n k : Nat} {M : EM} (hB : y_B b n k M) : e_w ((k : Int) + 1) = (k : Int) + 1 := by
  have h3 := hB.2.2.1
  have h5 := hB.2.2.2.2.1
  clear hB
  exact a_w_id (by omega) (by omega)
theorem y_ws {P I Qv : Int} (hp : 0 ≤ P ∧ P < 40) (hi : 0 ≤ I ∧ I ≤ 8) (hq : 0 ≤ Qv ∧ Qv ≤ 99) : e_w (28 * P) = 28 * P ∧ e_w (28 * P + 3) = 28 * P + 3 ∧ e_w (28 * P + 3 + I) = 28 * P + 3 + I ∧ e_w (28 * P + 11) = 28 * P + 11 ∧ e_w (28 * P + 11 + I) = 28 * P + 11 + I ∧ e_w (28 * P + 20) = 28 * P + 20 ∧ e_w (28 * P + 20 + I) = 28 * P + 20 + I ∧ e_w (28 * Qv) = 28 * Qv ∧ e_w (28 * Qv + 1) = 28 * Qv + 1 ∧ e_w (I + 1) = I + 1 ∧ e_w (P + 1) = P + 1 := by
  refine ⟨?_, ?_, ?_, ?_, ?_, ?_, ?_, ?_, ?_, ?_, ?_⟩ <;> exact a_w_id (by omega) (by omega)
section YR2
variable {b : Nat → Int} {n : Nat} {p : Nat} {N : EM} {X G D : Nat → Int} {g0 : Int → Int} {f : Nat} {Q : Int → Prop}
theorem y_r166 (hA : w_A b n) (hz : w_T b n 2 = 0) (hp : p < 40) {k0 : Nat} (hH : y_RH b n p Q N X G D g0 f k0) {k : Nat} {M : EM} {x2 x4 x5 x6 x7 : Int} {i gr : Nat} (hk0 : k0 < k) (hB : y_B b n k M) (hf : y_fr N M) (rd : y_rd b n k) (h3 : w_T b k 3 = 114) (h5 : w_T b k 5 = 0) (h8 : w_T b k 8 = ((f + i : Nat) : Int)) (h6 : w_T b k 6 = (gr : Int) + 1) (hI : y_IR g0 p Q X G D f i gr M x2 x4) (hd : x5 = 0 ∨ x5 = 1) (hG : y_gd G D f i gr x5) (hgp : y_gp G f i gr) (hgi : gr + 1 ≤ i) (hkd : ∀ x : Int, 0 ≤ x → x < p → g0 (28 * x) = r_G M (28 * x)) {i0 : Nat} (hi0 : i0 < i) (h7 : w_T b k 7 = w_T b (k0 + 1) 7) : y_RE b n N g0 p Q X G D f k0 i0 (E_V 186 166 [192, (p : Int), x2, (gr : Int), x4, x5, x6, x7] M) := by
  obtain ⟨i1, i2⟩ := hI
  rcases i2 with ⟨e1, e2, e3, e4, e5, e6, e7⟩ | ⟨e1, e2⟩
  · subst e1
    have b1 : 0 ≤ 28 * (p : Int) + 20 + (gr : Int) ∧ 28 * (p : Int) + 20 + (gr : Int) < 1330 := by omega
    have hk1 : 28 * (p : Int) + 20 + (gr : Int) ≥ 1 := by omega
    have s1 := fun v => r_stw (i := 28 * (p : Int) + 20 + (gr : Int)) (v := v) (M := M) b1.1 b1.2
    obtain ⟨v1, -, -, -, -, v6, v7, -⟩ := y_ws (P := (p : Int)) (I := (gr : Int)) (Qv := 0) (by omega) (by omega) (by decide)
    rw [y_l166 v1 v6 v7 s1 hd]
    clear v1 v6 v7 s1
    have Gs : r_G (e_up M 193 (28 * (p : Int) + 20 + (gr : Int)).toNat x5) (28 * (p : Int) + 20 + (gr : Int)) = x5 := r_G_s
    have Gn : ∀ x, x ≠ 28 * (p : Int) + 20 + (gr : Int) → r_G (e_up M 193 (28 * (p : Int) + 20 + (gr : Int)).toNat x5) x = r_G M x := fun x hx => r_G_n hk1 hx
    have BN := y_Bw (i := 28 * (p : Int) + 20 + (gr : Int)) (v := x5) hB ⟨by omega, by omega⟩
    have fN := y_frw (i := 28 * (p : Int) + 20 + (gr : Int)) (v := x5) hf
    generalize e_up M 193 (28 * (p : Int) + 20 + (gr : Int)).toNat x5 = N1 at Gs Gn BN fN ⊢
    refine y_r195 hA hz hp hH hk0 BN fN rd h3 h5 h8 h6 ⟨i1, Or.inl ⟨rfl, e2, e3, e4, ⟨fun j hj => ?_, fun x x0 hx hn => ?_⟩, fun j hj => ⟨?_, fun hlt => ?_⟩, fun x x0 x1 hs => ?_⟩⟩ (fun j hj => ⟨(hG j hj).1, (hG j hj).2.1⟩) hgp hgi (fun x x0 x1 => ?_) hi0 h7
    · obtain ⟨u1, u2⟩ := e5.1 j hj
      have hj2 := (e4 j hj).1
      exact ⟨(Gn _ (by omega)).trans u1, (Gn _ (by omega)).trans u2⟩
    · exact (Gn _ (by omega)).trans (e5.2 x x0 hx hn)
    · exact (Gn _ (by omega)).trans (e6 j hj).1
    · obtain ⟨q1, q2, q3⟩ := hG j hj
      by_cases c : G (f + j) = gr
      · rw [c, Gs, q3 c]
      · rw [Gn _ (by omega)]
        exact (e6 j hj).2 (by omega)
    · exact (Gn _ (fun e => hs (Or.inr (Or.inr ⟨by omega, by omega⟩)))).trans (e7 x x0 x1 (fun e => hs (by omega)))
    · rw [Gn _ (by omega)]
      exact hkd x x0 x1
  · subst e1
    rw [y_l166n]
    exact y_r195 hA hz hp hH hk0 hB hf rd h3 h5 h8 h6 ⟨i1, Or.inr ⟨rfl, e2⟩⟩ (fun j hj => ⟨(hG j hj).1, (hG j hj).2.1⟩) hgp hgi hkd hi0 h7
theorem y_r28 (hA : w_A b n) (hz : w_T b n 2 = 0) (hp : p < 40) (hmay : ∀ (q : Int) (M : EM), 0 ≤ q → (q < p ∧ Q (r_G M (28 * q)) ∧ r_G M (28 * q + 1) = 0 → E_C 185 [192, q, (p : Int), 1] M = some (1, M)) ∧ (¬ (q < p ∧ Q (r_G M (28 * q)) ∧ r_G M (28 * q + 1) = 0) → E_C 185 [192, q, (p : Int), 1] M = some (0, M))) (hX : y_X b n X) (hXG : y_XG b n G D) {k0 : Nat} (hH : y_RH b n p Q N X G D g0 f k0) {i0 : Nat} {gr : Nat} {d : Int} (hd : d = 0 ∨ d = 1) : ∀ (m k : Nat) (M : EM) (x2 x4 x7 : Int) (i : Nat), n - k ≤ m → k0 < k → y_B b n k M → y_fr N M → w_T b k 2 = 1 → w_T b k 3 = 114 → w_T b k 5 = d → (d = 0 → k < n → b k ≠ 91) → w_T b k 8 = ((f + i : Nat) : Int) → w_T b k 6 = (gr : Int) + 1 → w_T b k 7 = w_T b (k0 + 1) 7 → y_IR g0 p Q X G D f i gr M x2 x4 → y_gd G D f i gr d → (y_gp G f i ((gr : Int) - 1) ∨ (0 < i ∧ y_gp G f i gr)) → gr ≤ i → i0 ≤ i → (∀ x : Int, 0 ≤ x → x < p → g0 (28 * x) = r_G M (28 * x)) → y_RE b n N g0 p Q X G D f k0 i0 (E_V 186 28 [192, (p : Int), x2, (gr : Int), x4, d, 1, x7] M) := by
  intro m
  induction m with
  | zero =>
    intro k M x2 x4 x7 i hm hk0 hB hf h2
    have hk := hB.2.2.1
    have e : k = n := by omega
    rw [e] at h2
    omega
  | succ m ih =>
    intro k M x2 x4 x7 i hm hk0 hB hf h2 h3 h5 h91 h8 h6 h7 hI hG hgp hgi hi0 hkd
    have A1 := w_Al hA hB.2.2.1
    have hl : k < n := by
      rcases Nat.lt_or_ge k n with h | h
      · exact h
      · have hk := hB.2.2.1
        have e : k = n := by omega
        rw [e] at h2
        omega
    have ok := hA k hl
    unfold w_ok at ok
    rw [if_neg (by omega), if_pos h2] at ok
    have dg : 48 ≤ b k ∧ b k ≤ 57 := by
      rcases ok with ok | ok
      · exact ok
      · exact absurd ok.1 (h91 (by omega) hl)
    obtain ⟨k', M2, g2, t2, B2, ⟨z1, z2, z3, z4, z5, z6, z7, z8, z9, z10, z11⟩, num⟩ := (y_num hB A1 h2).2 ⟨hl, dg⟩
    have eG2 := y_G_t t2
    have f2 := y_fr_t hf t2
    have hx := hX k hl z3
    have hxg := hXG k hl z3
    rw [h8, Int.toNat_natCast, h6, h5] at hxg
    rw [h8, Int.toNat_natCast, ← num] at hx
    have v99 := y_v99 (n := n) z3
    rw [← num] at v99
    obtain ⟨q, hq⟩ : ∃ q : Nat, M2 192 18 = (q : Int) := ⟨(M2 192 18).toNat, by omega⟩
    rw [hq] at hx v99
    have hgi' : G (f + i) = gr := by omega
    have hgd' : D (f + i) = d := hxg.2
    obtain ⟨l', sg⟩ := y_sig hA hz z2 z5
    have hG1 : y_gd G D f (i + 1) gr d := fun j hj => by
      by_cases c : j = i
      · subst c
        exact ⟨by omega, by omega, fun _ => hgd'⟩
      · exact hG j (by omega)
    have hgp1 : y_gp G f (i + 1) gr := by
      rcases hgp with hgp | ⟨c, hgp⟩
      · exact y_gp_up hgp hgi' (Or.inl (by omega))
      · exact y_gp_up hgp hgi' (Or.inr ⟨rfl, c⟩)
    -- behind the number
    have tail : ∀ (N1 : EM) (y2 y4 : Int), y_B b n k' N1 → y_fr N N1 → y_IR g0 p Q X G D f (i + 1) gr N1 y2 y4 → (∀ x : Int, 0 ≤ x → x < p → g0 (28 * x) = r_G N1 (28 * x)) → y_RE b n N g0 p Q X G D f k0 i0 (E_V 186 127 [192, (p : Int), y2, (gr : Int), y4, d, 1, 1] N1) := by
      intro N1 y2 y4 BN fN IN kN
      rcases hd with hd0 | hd1
      · subst hd0
        rw [y_l127a, y_l28y]
        exact y_r166 hA hz hp hH (by omega) BN fN z5 (z6.trans h3) (z8.trans h5) (by rw [z11, h8]; omega) (by rw [z9, h6]) IN (Or.inl rfl) hG1 hgp1 (by omega) kN (by omega) (z10.trans h7)
      · subst hd1
        obtain ⟨t1, t2'⟩ := y_takes (c := 32) BN (by decide)
        by_cases c : y_s b n k' = 32
        · obtain ⟨k5, l5, e5, tt5, B5⟩ := t1 c
          obtain ⟨a1, a2, a3, a4, a5, a6, a7, a8⟩ := y_spc z4 z5 l5 e5 (by omega) (by omega)
          rw [if_neg (by omega)] at a6
          rw [y_l127b k5 (Or.inr rfl)]
          exact ih (k' + 1) _ y2 y4 1 (i + 1) (by omega) (by omega) B5 (y_fr_t fN tt5) a2 (by omega) (by omega) (fun e => absurd e (by decide)) (by rw [a8, z11, h8]; omega) (by omega) (by omega) (by
            unfold y_IR at IN ⊢
            rw [y_G_t tt5]
            exact IN) hG1 (Or.inr ⟨by omega, hgp1⟩) (by omega) (by omega) (fun x x0 x1 => by rw [y_G_t tt5]; exact kN x x0 x1)
        · have k5 := t2' c
          rw [y_sb l'] at c
          have c93 : b k' = 93 := by omega
          obtain ⟨a1, a2, a3, a4, a5, a6, a7, a8⟩ := y_cls z4 z5 l' c93 (by omega)
          obtain ⟨o1, o2⟩ := y_on BN l'
          rw [y_l127b k5 (Or.inl rfl), y_l28z BN.2.1 (y_k1 BN)]
          exact y_r166 hA hz hp hH (by omega) o2 (y_fr_t fN o1) ⟨by rw [a2]; decide, by rw [a2]; decide, by rw [a2]; exact fun e => absurd e.1 (by decide)⟩ (by omega) a5 (by rw [a8, z11, h8]; omega) (by omega) (by
            unfold y_IR at IN ⊢
            rw [y_G_t o1]
            exact IN) (Or.inr rfl) hG1 hgp1 (by omega) (fun x x0 x1 => by rw [y_G_t o1]; exact kN x x0 x1) (by omega) (by omega)
    have hkd2 : ∀ x : Int, 0 ≤ x → x < p → g0 (28 * x) = r_G M2 (28 * x) := fun x x0 x1 => by rw [eG2]; exact hkd x x0 x1
    obtain ⟨i1, i2⟩ := hI
    rw [← eG2] at i2
    rcases i2 with ⟨e1, e2, e3, e4, e5, e6, e7⟩ | ⟨e1, j, j1, j2⟩
    · subst e1
      subst e2
      have no : (¬ y_J g0 p Q X f i ∨ 8 ≤ i) → y_RE b n N g0 p Q X G D f k0 i0 (E_V 186 127 [192, (p : Int), (i : Int), (gr : Int), 0, d, 1, 1] M2) := fun hbad => tail M2 i 0 B2 f2 ⟨i1, Or.inr ⟨rfl, i, by omega, hbad⟩⟩ hkd2
      by_cases c1 : 8 > i
      · have mc := hmay (q : Int) M2 v99.1
        have Jiff : ((q : Int) < p ∧ Q (r_G M2 (28 * (q : Int))) ∧ r_G M2 (28 * (q : Int) + 1) = 0) ↔ y_J g0 p Q X f i := by
          unfold y_J
          rw [hx]
          clear mc no tail ih
          refine ⟨fun ⟨a, b', c⟩ => ?_, fun ⟨⟨_, a⟩, b', c, d⟩ => ?_⟩
          · rw [← hkd2 q (by omega) a] at b'
            have nj : ∀ j, j < i → X (f + j) ≠ (q : Int) := fun j hj e => by
              have := (e5.1 j hj).2
              rw [e, c] at this
              omega
            refine ⟨⟨by omega, a⟩, b', ?_, nj⟩
            rw [← e5.2 (28 * (q : Int) + 1) (by omega) (Or.inl (by omega)) (fun j hj e => nj j hj (by omega))]
            exact c
          · rw [hkd2 q (by omega) a] at b'
            refine ⟨a, b', ?_⟩
            rw [e5.2 (28 * (q : Int) + 1) (by omega) (Or.inl (by omega)) (fun j hj e => d j hj (by omega))]
            exact c
        by_cases c2 : y_J g0 p Q X f i
        · have k5 := mc.1 (Jiff.mpr c2)
          have qp : q < p := by
            have := c2.1.2
            rw [hx] at this
            omega
          have b0 : 0 ≤ (28 * (p : Int) + 3 + (i : Int)) ∧ (28 * (p : Int) + 3 + (i : Int)) < 1330 := by omega
          have b2 : 0 ≤ (28 * (p : Int) + 11 + (i : Int)) ∧ (28 * (p : Int) + 11 + (i : Int)) < 1330 := by omega
          have b1 : 0 ≤ (28 * (q : Int) + 1) ∧ (28 * (q : Int) + 1) < 1330 := by omega
          have s1 := fun v => r_stw (i := 28 * (p : Int) + 3 + (i : Int)) (v := v) (M := M2) b0.1 b0.2
          have s3 := fun v M => r_stw (i := 28 * (p : Int) + 11 + (i : Int)) (v := v) (M := M) b2.1 b2.2
          have s2 := fun v M => r_stw (i := 28 * (q : Int) + 1) (v := v) (M := M) b1.1 b1.2
          have hk1 : 28 * (p : Int) + 3 + (i : Int) ≥ 1 := by omega
          have hk2 : 28 * (q : Int) + 1 ≥ 1 := by omega
          have hk3 : 28 * (p : Int) + 11 + (i : Int) ≥ 1 := by omega
          have n13 : (28 * (p : Int) + 3 + (i : Int)) ≠ 28 * (q : Int) + 1 := by omega
          have n23 : (28 * (p : Int) + 11 + (i : Int)) ≠ 28 * (q : Int) + 1 := by omega
          have n12 : (28 * (p : Int) + 3 + (i : Int)) ≠ 28 * (p : Int) + 11 + (i : Int) := by omega
          obtain ⟨N1, hN1⟩ : ∃ N1, e_up (e_up (e_up M2 193 (28 * (p : Int) + 3 + (i : Int)).toNat (q : Int)) 193 (28 * (p : Int) + 11 + (i : Int)).toNat (gr : Int)) 193 (28 * (q : Int) + 1).toNat ((p : Int) + 1) = N1 := ⟨_, rfl⟩
          have G1 : r_G N1 (28 * (p : Int) + 3 + (i : Int)) = q := by rw [← hN1]; exact (r_G_n hk2 n13).trans ((r_G_n hk3 n12).trans r_G_s)
          have G4 : r_G N1 (28 * (p : Int) + 11 + (i : Int)) = gr := by rw [← hN1]; exact (r_G_n hk2 n23).trans r_G_s
          have G2 : r_G N1 (28 * (q : Int) + 1) = (p : Int) + 1 := by rw [← hN1]; exact r_G_s
          have G3 : ∀ x, x ≠ 28 * (p : Int) + 3 + (i : Int) → x ≠ 28 * (p : Int) + 11 + (i : Int) → x ≠ 28 * (q : Int) + 1 → r_G N1 x = r_G M2 x := fun x x1 x2 x3 => by rw [← hN1]; exact (r_G_n hk2 x3).trans ((r_G_n hk3 x2).trans (r_G_n hk1 x1))
          have BN : y_B b n k' N1 := by rw [← hN1]; exact y_Bw (y_Bw (y_Bw B2 ⟨by omega, by omega⟩) ⟨by omega, by omega⟩) ⟨by omega, by omega⟩
          have fN : y_fr N N1 := by rw [← hN1]; exact y_frw (y_frw (y_frw f2))
          have I1 : y_IR g0 p Q X G D f (i + 1) gr N1 ((i : Int) + 1) 1 := by
            clear s1 s2 s3 mc k5 no tail ih g2 hN1
            refine ⟨by omega, Or.inl ⟨rfl, by omega, by omega, fun j hj => ?_, y_mr_up e5 hx qp (fun j hj => c2.2.2.2 j hj) (fun j hj => (e4 j hj).1) (by omega) G1 G2 (fun x x0 x1 x2 x3 => G3 x x1 (by omega) x2) (fun x x0 => G3 x (by omega) (by omega) (by omega)), fun j hj => ?_, fun x x0 x1 hs => ?_⟩⟩
            · by_cases e : j = i
              · rw [e]; exact c2
              · exact e4 j (by omega)
            · by_cases e : j = i
              · subst e
                exact ⟨G4.trans hgi'.symm, fun h => by omega⟩
              · obtain ⟨u1, u2⟩ := e6 j (by omega)
                have hg := hG j (by omega)
                refine ⟨(G3 _ (by omega) (by omega) (by omega)).trans u1, fun h => ?_⟩
                exact (G3 _ (by omega) (by omega) (by omega)).trans (u2 h)
            · rw [G3 _ (fun e => hs (Or.inl ⟨by omega, by omega⟩)) (fun e => hs (Or.inr (Or.inl ⟨by omega, by omega⟩))) (by omega)]
              exact e7 x x0 x1 (fun e => hs (by omega))
          have kN : ∀ x : Int, 0 ≤ x → x < p → g0 (28 * x) = r_G N1 (28 * x) := fun x x0 x1 => by
            rw [G3 _ (by omega) (by omega) (by omega)]
            exact hkd2 x x0 x1
          have c1i : (i : Int) < 8 := by omega
          obtain ⟨v1, v2, v3, v4, v5, -, -, v8, v9, v10, v11⟩ := y_ws (P := (p : Int)) (I := (i : Int)) (Qv := (q : Int)) (by omega) (by omega) v99
          rw [y_l28a g2 hq c1i k5 v1 v2 v3 v4 v5 v8 v9 v10 v11 s1 s3 s2 hN1]
          exact tail N1 ((i : Int) + 1) 1 BN fN I1 kN
        · rw [y_l28d g2 hq (by omega) (mc.2 (fun h => c2 (Jiff.mp h)))]
          exact no (Or.inl c2)
      · rw [y_l28c g2 (by omega)]
        exact no (Or.inr (by omega))
    · subst e1
      rw [y_l28b g2]
      exact tail M2 x2 0 B2 f2 ⟨i1, Or.inr ⟨rfl, j, by omega, j2⟩⟩ hkd2
theorem y_r7 (hA : w_A b n) (hz : w_T b n 2 = 0) (hp : p < 40) (hmay : ∀ (q : Int) (M : EM), 0 ≤ q → (q < p ∧ Q (r_G M (28 * q)) ∧ r_G M (28 * q + 1) = 0 → E_C 185 [192, q, (p : Int), 1] M = some (1, M)) ∧ (¬ (q < p ∧ Q (r_G M (28 * q)) ∧ r_G M (28 * q + 1) = 0) → E_C 185 [192, q, (p : Int), 1] M = some (0, M))) (hX : y_X b n X) (hXG : y_XG b n G D) : ∀ (m k0 : Nat), n - k0 ≤ m → ∀ (M : EM) (x2 x4 x5 x6 x7 : Int) (i gr : Nat), y_B b n k0 M → k0 < n → y_fr N M → w_T b (k0 + 1) 2 = 1 → w_T b (k0 + 1) 3 = 114 → w_T b (k0 + 1) 5 = 0 → w_T b (k0 + 1) 8 = ((f + i : Nat) : Int) → w_T b (k0 + 1) 6 = (gr : Int) + 1 → y_IR g0 p Q X G D f i gr M x2 x4 → (∀ j, j < i → 0 ≤ G (f + j) ∧ G (f + j) < gr) → y_gp G f i ((gr : Int) - 1) → gr ≤ i → (∀ x : Int, 0 ≤ x → x < p → g0 (28 * x) = r_G M (28 * x)) → y_RE b n N g0 p Q X G D f k0 i (E_V 186 7 [192, (p : Int), x2, (gr : Int), x4, x5, x6, x7] M) := by
  intro m
  induction m with
  | zero =>
    intro k0 hm M x2 x4 x5 x6 x7 i gr hB hk
    omega
  | succ m ih =>
    intro k0 hm M x2 x4 x5 x6 x7 i gr hB hk hf h2 h3 h5 h8 h6 hI hG hgp hgi hkd
    have hH : y_RH b n p Q N X G D g0 f k0 := fun k M x2 x4 x5 x6 x7 i gr hlt hB hk hf h2 h3 h5 h8 h6 hI hG hgp hgi hkd => ih k (by omega) M x2 x4 x5 x6 x7 i gr hB hk hf h2 h3 h5 h8 h6 hI hG hgp hgi hkd
    obtain ⟨o1, o2⟩ := y_on hB hk
    have A1 := w_Al hA (show k0 + 1 ≤ n by omega)
    have w1 := y_k1 hB
    have h15 := hB.2.1
    have f1 := y_fr_t hf o1
    have G1 := y_G_t o1
    obtain ⟨M1, hM1⟩ : ∃ M1, e_up M 192 15 ((k0 : Int) + 1) = M1 := ⟨_, rfl⟩
    rw [hM1] at o1 o2 f1 G1
    obtain ⟨t1, t2⟩ := y_takes (c := 91) o2 (by decide)
    have I1 : y_IR g0 p Q X G D f i gr M1 x2 x4 := by
      unfold y_IR at hI ⊢
      rw [G1]
      exact hI
    have kd1 : ∀ x : Int, 0 ≤ x → x < p → g0 (28 * x) = r_G M1 (28 * x) := fun x x0 x1 => by rw [G1]; exact hkd x x0 x1
    by_cases c : y_s b n (k0 + 1) = 91
    · obtain ⟨k5, l5, e5, tt5, B5⟩ := t1 c
      obtain ⟨a1, a2, a3, a4, a5, a6, a7, a8⟩ := y_opn A1 h2 e5 h3 h5
      rw [y_l7 h15 w1 hM1 k5]
      clear w1
      exact y_r28 hA hz hp hmay hX hXG hH (Or.inr rfl) _ (k0 + 1 + 1) _ x2 x4 x7 i (Nat.le_refl _) (by omega) B5 (y_fr_t f1 tt5) a2 (by omega) a5 (fun e => absurd e (by decide)) (by omega) (by omega) a7 (by
        unfold y_IR at I1 ⊢
        rw [y_G_t tt5]
        exact I1) (fun j hj => ⟨(hG j hj).1, by have := (hG j hj).2; omega, fun e => by have := (hG j hj).2; omega⟩) (Or.inl hgp) hgi (Nat.le_refl _) (fun x x0 x1 => by rw [y_G_t tt5]; exact kd1 x x0 x1)
    · have k5 := t2 c
      rw [y_l7 h15 w1 hM1 k5]
      clear w1
      exact y_r28 hA hz hp hmay hX hXG hH (Or.inl rfl) _ (k0 + 1) _ x2 x4 x7 i (Nat.le_refl _) (by omega) o2 f1 h2 h3 h5 (fun _ hl e => c (by rw [y_sb hl]; exact e)) h8 h6 rfl I1 (fun j hj => ⟨(hG j hj).1, by have := (hG j hj).2; omega, fun e => by have := (hG j hj).2; omega⟩) (Or.inl hgp) hgi (Nat.le_refl _) kd1
end YR2
end
