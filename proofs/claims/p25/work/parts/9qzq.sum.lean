section
/-! PUSH of lines, CURRENTS summed, BEST, by the class: exactly -/
theorem cu_gs_cg {G G' v v' : Nat → Int} {y : Int} : ∀ i, (∀ k, k < i → G' k = G k ∧ v' k = v k) → cu_gs G' v' y i = cu_gs G v y i := by
  intro i
  induction i with
  | zero => intro _; rfl
  | succ i ih =>
    intro h
    show cu_gs G' v' y i + (if G' i = y then v' i else 0) = cu_gs G v y i + (if G i = y then v i else 0)
    rw [ih (fun k hk => h k (by omega)), (h i (by omega)).1, (h i (by omega)).2]
theorem cu_R_cg {G G' v v' : Nat → Int} {D D' : Nat → Int} {i : Nat} (h : ∀ k, k < i → G' k = G k ∧ v' k = v k) : ∀ m, (∀ y, y < m → D' y = D y) → cu_R G' v' D' i m = cu_R G v D i m := by
  intro m
  induction m with
  | zero => intro _; rfl
  | succ m ih =>
    intro hd
    show cu_R G' v' D' i m + cu_cl (D' m) (cu_gs G' v' m i) = cu_R G v D i m + cu_cl (D m) (cu_gs G v m i)
    rw [ih (fun y hy => hd y (by omega)), hd m (by omega), cu_gs_cg i h]
theorem bx_27 {M : EM} {l0 base x5 : Int} {a n og gr b : Nat} {G : Nat → Int} (ha : a + n ≤ 40) (hg : og + gr ≤ 40) (hb : base = b) (hb4 : b + 40 ≤ 4040) (hn8 : n ≤ 8) (hgr8 : gr ≤ 8) (h5 : x5 = ((a + n : Nat) : Int)) (hgp : cu_gp G n gr) (hG : ∀ k, k < n → M 173 (a + k) = (og : Int) + G k) (hv : ∀ k, k < n → -60 ≤ M 179 (b + (a + k)) ∧ M 179 (b + (a + k)) ≤ 60) : ∀ (d i : Nat) (x3 x4 x6 : Int), x6 = ((a + i : Nat) : Int) → i + d = n → (x3, x4) = cu_st n G (fun k => M 179 (b + (a + k))) (fun y => M 172 (og + y)) i → E_V 15 27 [170, l0, base, x3, x4, x5, x6] M = some ((cu_st n G (fun k => M 179 (b + (a + k))) (fun y => M 172 (og + y)) n).1, M) := by
  intro d
  induction d with
  | zero =>
    intro i x3 x4 x6 hx hi hst
    have e : i = n := by omega
    subst e
    rw [← hst]
    have q : ¬ (x6 < x5) := by omega
    rw [E_V_eq]
    show e_tv E_C (E_V 15) e_t15_27 [170, l0, base, x3, x4, x5, x6] M = _
    unfold e_t15_27
    simp [zq_a, zq_b, zq_c, zq_d, zq_e, zq_f, zq_g, zq_h, zq_i, zq_j, zq_k, zq_l, zq_m, zq_n, zq_o, zq_p, zq_q, zq_r, zq_s, zq_t, zq_u, zq_v, zq_w, zq_x, zq_y, zq_z, zq_A, zq_B, zq_C, zq_D, zq_E, zq_F, zq_G, zq_H, zq_I, zq_J, zq_K, zq_L, ↓zq_M, ↓zq_N, ↓zq_O, ↓zq_P, ↓zq_Q, ↓zq_R, zq_S, zq_T, zq_U, zq_V, zq_W, zq_X, zq_Y, zq_Z, zq_0, zq_1, zq_2, zq_3, zq_4, zq_5, ↓zq_6, ↓zq_7, ↓zq_8, ↓zq_9, ↓zq_aa, zq_ab, zq_ac, zq_ad, zq_ae, zq_af, zq_ag, ↓zq_ah, ↓zq_ai, ↓zq_aj, zq_ak, ↓zq_al, ↓zq_am, e_b1, e_b2, x_o1, x_o2, q]
  | succ d ih =>
    intro i x3 x4 x6 hx hi hst
    have q : x6 < x5 := by omega
    have hin : i < n := by omega
    obtain ⟨y, y1, y2, y3⟩ := cu_st_in (v := fun k => M 179 (b + (a + k))) (D := fun y => M 172 (og + y)) hgp i hin
    have ygr : y < gr := by
      have := cu_gp_lt hgp i hin
      omega
    have ebs := hst.trans y3
    have e3 : x3 = cu_R G (fun k => M 179 (b + (a + k))) (fun y => M 172 (og + y)) i y := (Prod.mk.inj ebs).1
    have e4 : x4 = cu_gs G (fun k => M 179 (b + (a + k))) y i := (Prod.mk.inj ebs).2
    have b3 := cu_R_bd (G := G) (v := fun k => M 179 (b + (a + k))) (D := fun y => M 172 (og + y)) (n := i) (by omega) (fun k hk => hv k (by omega)) y
    have b4 := cu_gs_bd (G := G) (v := fun k => M 179 (b + (a + k))) (y := y) (b := 60) (by decide) i (fun k hk => hv k (by omega))
    rw [← e3] at b3
    rw [← e4] at b4
    have bv := hv i hin
    have est : cu_st n G (fun k => M 179 (b + (a + k))) (fun y => M 172 (og + y)) (i + 1) = if i + 1 = n ∨ G (i + 1) ≠ G i then (x3 + cu_cl (M 172 (og + (G i).toNat)) (x4 + M 179 (b + (a + i))), 0) else (x3, x4 + M 179 (b + (a + i))) := by
      have r : cu_st n G (fun k => M 179 (b + (a + k))) (fun y => M 172 (og + y)) (i + 1) = if i + 1 = n ∨ G (i + 1) ≠ G i then ((cu_st n G (fun k => M 179 (b + (a + k))) (fun y => M 172 (og + y)) i).1 + cu_cl (M 172 (og + (G i).toNat)) ((cu_st n G (fun k => M 179 (b + (a + k))) (fun y => M 172 (og + y)) i).2 + M 179 (b + (a + i))), 0) else ((cu_st n G (fun k => M 179 (b + (a + k))) (fun y => M 172 (og + y)) i).1, (cu_st n G (fun k => M 179 (b + (a + k))) (fun y => M 172 (og + y)) i).2 + M 179 (b + (a + i))) := rfl
      rw [r, ← hst]
    rw [y1, Int.toNat_natCast] at est
    have i1 : base + x6 = ((b + (a + i) : Nat) : Int) := by omega
    have i2 : b + (a + i) < 4040 := by omega
    have i3 : a + i < 40 := by omega
    have t1 : E_C 146 [179, base + x6] M = some (M 179 (b + (a + i)), M) := w_atN (a := 179) (n := 4040) (by decide +kernel) (j := b + (a + i)) i1 i2 M
    have t2 : E_C 146 [173, x6] M = some (((og + y : Nat) : Int), M) := (w_atN (a := 173) (n := 40) (by decide +kernel) (j := a + i) hx i3 M).trans (by rw [show M (173 : Int).toNat (a + i) = ((og + y : Nat) : Int) from (hG i hin).trans (by rw [y1]; omega)])
    have t3 : E_C 146 [172, ((og + y : Nat) : Int)] M = some (M 172 (og + y), M) := w_atN (a := 172) (n := 40) (by decide +kernel) (j := og + y) rfl (by omega) M
    have k := fun x3' x4' => ih (i + 1) x3' x4' (x6 + 1) (by omega) (by omega)
    rw [est] at k
    have tn : i + 1 < n → E_C 146 [173, x6 + 1] M = some ((og : Int) + G (i + 1), M) := fun h => (w_atN (a := 173) (i := x6 + 1) (n := 40) (by decide +kernel) (j := a + (i + 1)) (by omega) (by omega) M).trans (by rw [show M (173 : Int).toNat (a + (i + 1)) = (og : Int) + G (i + 1) from hG (i + 1) h])
    have s118 : ∀ z3 z4, E_V 15 118 [170, l0, base, z3, z4, x5, x6] M = E_V 15 27 [170, l0, base, z3, z4, x5, x6 + 1] M := fun z3 z4 => by
      have w : e_w (x6 + 1) = x6 + 1 := a_w_id (by omega) (by omega)
      rw [E_V_eq]
      show e_tv E_C (E_V 15) e_t15_118 [170, l0, base, z3, z4, x5, x6] M = _
      unfold e_t15_118
      simp [zq_a, zq_b, zq_c, zq_d, zq_e, zq_f, zq_g, zq_h, zq_i, zq_j, zq_k, zq_l, zq_m, zq_n, zq_o, zq_p, zq_q, zq_r, zq_s, zq_t, zq_u, zq_v, zq_w, zq_x, zq_y, zq_z, zq_A, zq_B, zq_C, zq_D, zq_E, zq_F, zq_G, zq_H, zq_I, zq_J, zq_K, zq_L, ↓zq_M, ↓zq_N, ↓zq_O, ↓zq_P, ↓zq_Q, ↓zq_R, zq_S, zq_T, zq_U, zq_V, zq_W, zq_X, zq_Y, zq_Z, zq_0, zq_1, zq_2, zq_3, zq_4, zq_5, ↓zq_6, ↓zq_7, ↓zq_8, ↓zq_9, ↓zq_aa, zq_ab, zq_ac, zq_ad, zq_ae, zq_af, zq_ag, ↓zq_ah, ↓zq_ai, ↓zq_aj, zq_ak, ↓zq_al, ↓zq_am, e_b1, e_b2, x_o1, x_o2, w]
    have qn : x6 + 1 = x5 ↔ i + 1 = n := by omega
    clear est hst ebs e3 e4 hG hv y3
    revert t1 bv k
    generalize M 179 (b + (a + i)) = v
    intro bv t1 k
    revert t3 k
    generalize M 172 (og + y) = dd
    intro t3 k
    have b3' : -3840 ≤ x3 ∧ x3 ≤ 3840 := by omega
    have b4' : -480 ≤ x4 ∧ x4 ≤ 480 := by omega
    have w1 : e_w (base + x6) = base + x6 := a_w_id (by omega) (by omega)
    have w2 : e_w (x6 + 1) = x6 + 1 := a_w_id (by omega) (by omega)
    have w3 : e_w (x4 + v) = x4 + v := a_w_id (by omega) (by omega)
    have w4 : e_w (x3 + (x4 + v)) = x3 + (x4 + v) := a_w_id (by omega) (by omega)
    have w5 : e_w (x3 + -1) = x3 + -1 := a_w_id (by omega) (by omega)
    have end1 : (i + 1 = n ∨ G (i + 1) ≠ (y : Int)) → ∀ z, z = (if dd ≠ 0 ∧ x4 + v < -1 then -1 else x4 + v) → E_V 15 118 [170, l0, base, x3 + z, 0, x5, x6] M = some ((cu_st n G (fun k => M 179 (b + (a + k))) (fun y => M 172 (og + y)) n).1, M) := fun h z hz => by
      rw [s118]
      refine k _ _ ?_
      rw [if_pos h, hz]
      rfl
    have end2 : ¬ (i + 1 = n ∨ G (i + 1) ≠ (y : Int)) → E_V 15 118 [170, l0, base, x3, x4 + v, x5, x6] M = some ((cu_st n G (fun k => M 179 (b + (a + k))) (fun y => M 172 (og + y)) n).1, M) := fun h => by
      rw [s118]
      refine k _ _ ?_
      rw [if_neg h]
    clear k s118 hgp ih
    generalize (cu_st n G (fun k => M 179 (b + (a + k))) (fun y => M 172 (og + y)) n).1 = res at end1 end2 ⊢
    obtain ⟨gy, hgy⟩ : ∃ gy : Int, ((og + y : Nat) : Int) = gy := ⟨_, rfl⟩
    rw [hgy] at t2 t3
    rw [E_V_eq]
    show e_tv E_C (E_V 15) e_t15_27 [170, l0, base, x3, x4, x5, x6] M = _
    unfold e_t15_27
    have fin : (i + 1 = n ∨ G (i + 1) ≠ (y : Int)) → E_V 15 118 [170, l0, base, e_w (x3 + (if dd ≠ 0 then (if x4 + v < -1 then -1 else x4 + v) else x4 + v)), 0, x5, x6] M = some (res, M) := fun h => by
      by_cases c1 : dd ≠ 0
      · rw [if_pos c1]
        rcases x_lt (x4 + v) (-1) with ⟨c2, c2_n⟩ | ⟨c2, c2_n⟩
        · rw [if_pos c2, w5]
          exact end1 h _ (by rw [if_pos ⟨c1, c2⟩])
        · rw [if_neg c2, w4]
          exact end1 h _ (by rw [if_neg (fun e => c2 e.2)])
      · rw [if_neg c1, w4]
        exact end1 h _ (by rw [if_neg (fun e => c1 e.1)])
    by_cases c : i + 1 = n
    · have q6 : e_w (x6 + 1) = x5 := w2.trans (qn.mpr c)
      have fin' := fin (Or.inl c)
      by_cases c1 : dd = 0
      · rw [if_neg (fun e => e c1)] at fin'
        rw [c1] at t3
        simp [zq_a, zq_b, zq_c, zq_d, zq_e, zq_f, zq_g, zq_h, zq_i, zq_j, zq_k, zq_l, zq_m, zq_n, zq_o, zq_p, zq_q, zq_r, zq_s, zq_t, zq_u, zq_v, zq_w, zq_x, zq_y, zq_z, zq_A, zq_B, zq_C, zq_D, zq_E, zq_F, zq_G, zq_H, zq_I, zq_J, zq_K, zq_L, ↓zq_M, ↓zq_N, ↓zq_O, ↓zq_P, ↓zq_Q, ↓zq_R, zq_S, zq_T, zq_U, zq_V, zq_W, zq_X, zq_Y, zq_Z, zq_0, zq_1, zq_2, zq_3, zq_4, zq_5, ↓zq_6, ↓zq_7, ↓zq_8, ↓zq_9, ↓zq_aa, zq_ab, zq_ac, zq_ad, zq_ae, zq_af, zq_ag, ↓zq_ah, ↓zq_ai, ↓zq_aj, zq_ak, ↓zq_al, ↓zq_am, e_b1, e_b2, x_o1, x_o2, bx_G9, bx_Ga, bx_Gg, q, w1, w3, t1, t2, t3, q6, fin']
      · rw [if_pos c1] at fin'
        simp [zq_a, zq_b, zq_c, zq_d, zq_e, zq_f, zq_g, zq_h, zq_i, zq_j, zq_k, zq_l, zq_m, zq_n, zq_o, zq_p, zq_q, zq_r, zq_s, zq_t, zq_u, zq_v, zq_w, zq_x, zq_y, zq_z, zq_A, zq_B, zq_C, zq_D, zq_E, zq_F, zq_G, zq_H, zq_I, zq_J, zq_K, zq_L, ↓zq_M, ↓zq_N, ↓zq_O, ↓zq_P, ↓zq_Q, ↓zq_R, zq_S, zq_T, zq_U, zq_V, zq_W, zq_X, zq_Y, zq_Z, zq_0, zq_1, zq_2, zq_3, zq_4, zq_5, ↓zq_6, ↓zq_7, ↓zq_8, ↓zq_9, ↓zq_aa, zq_ab, zq_ac, zq_ad, zq_ae, zq_af, zq_ag, ↓zq_ah, ↓zq_ai, ↓zq_aj, zq_ak, ↓zq_al, ↓zq_am, e_b1, e_b2, x_o1, x_o2, bx_G9, bx_Ga, bx_Gg, q, w1, w3, t1, t2, t3, q6, c1, fin']
    · have q6 : ¬ (x6 + 1 = x5) := fun e => c (qn.mp e)
      have t4 := tn (by omega)
      by_cases c0 : G (i + 1) = (y : Int)
      · have e2 := end2 (fun h => h.elim c (fun h => h c0))
        rw [show (og : Int) + G (i + 1) = gy by rw [c0]; omega] at t4
        simp [zq_a, zq_b, zq_c, zq_d, zq_e, zq_f, zq_g, zq_h, zq_i, zq_j, zq_k, zq_l, zq_m, zq_n, zq_o, zq_p, zq_q, zq_r, zq_s, zq_t, zq_u, zq_v, zq_w, zq_x, zq_y, zq_z, zq_A, zq_B, zq_C, zq_D, zq_E, zq_F, zq_G, zq_H, zq_I, zq_J, zq_K, zq_L, ↓zq_M, ↓zq_N, ↓zq_O, ↓zq_P, ↓zq_Q, ↓zq_R, zq_S, zq_T, zq_U, zq_V, zq_W, zq_X, zq_Y, zq_Z, zq_0, zq_1, zq_2, zq_3, zq_4, zq_5, ↓zq_6, ↓zq_7, ↓zq_8, ↓zq_9, ↓zq_aa, zq_ab, zq_ac, zq_ad, zq_ae, zq_af, zq_ag, ↓zq_ah, ↓zq_ai, ↓zq_aj, zq_ak, ↓zq_al, ↓zq_am, e_b1, e_b2, x_o1, x_o2, bx_G9, bx_Ga, bx_Gg, q, w1, w2, w3, t1, t2, t4, q6, e2]
      · have ne : ¬ ((og : Int) + G (i + 1) = gy) := fun e => c0 (by omega)
        have fin' := fin (Or.inr c0)
        by_cases c1 : dd = 0
        · rw [if_neg (fun e => e c1)] at fin'
          rw [c1] at t3
          simp [zq_a, zq_b, zq_c, zq_d, zq_e, zq_f, zq_g, zq_h, zq_i, zq_j, zq_k, zq_l, zq_m, zq_n, zq_o, zq_p, zq_q, zq_r, zq_s, zq_t, zq_u, zq_v, zq_w, zq_x, zq_y, zq_z, zq_A, zq_B, zq_C, zq_D, zq_E, zq_F, zq_G, zq_H, zq_I, zq_J, zq_K, zq_L, ↓zq_M, ↓zq_N, ↓zq_O, ↓zq_P, ↓zq_Q, ↓zq_R, zq_S, zq_T, zq_U, zq_V, zq_W, zq_X, zq_Y, zq_Z, zq_0, zq_1, zq_2, zq_3, zq_4, zq_5, ↓zq_6, ↓zq_7, ↓zq_8, ↓zq_9, ↓zq_aa, zq_ab, zq_ac, zq_ad, zq_ae, zq_af, zq_ag, ↓zq_ah, ↓zq_ai, ↓zq_aj, zq_ak, ↓zq_al, ↓zq_am, e_b1, e_b2, x_o1, x_o2, bx_G9, bx_Ga, bx_Gg, q, w1, w2, w3, t1, t2, t3, t4, q6, ne, fin']
        · rw [if_pos c1] at fin'
          simp [zq_a, zq_b, zq_c, zq_d, zq_e, zq_f, zq_g, zq_h, zq_i, zq_j, zq_k, zq_l, zq_m, zq_n, zq_o, zq_p, zq_q, zq_r, zq_s, zq_t, zq_u, zq_v, zq_w, zq_x, zq_y, zq_z, zq_A, zq_B, zq_C, zq_D, zq_E, zq_F, zq_G, zq_H, zq_I, zq_J, zq_K, zq_L, ↓zq_M, ↓zq_N, ↓zq_O, ↓zq_P, ↓zq_Q, ↓zq_R, zq_S, zq_T, zq_U, zq_V, zq_W, zq_X, zq_Y, zq_Z, zq_0, zq_1, zq_2, zq_3, zq_4, zq_5, ↓zq_6, ↓zq_7, ↓zq_8, ↓zq_9, ↓zq_aa, zq_ab, zq_ac, zq_ad, zq_ae, zq_af, zq_ag, ↓zq_ah, ↓zq_ai, ↓zq_aj, zq_ak, ↓zq_al, ↓zq_am, e_b1, e_b2, x_o1, x_o2, bx_G9, bx_Ga, bx_Gg, q, w1, w2, w3, t1, t2, t3, t4, q6, ne, c1, fin']
theorem bx_15 {M : EM} {l0 base : Int} {l a n og gr b : Nat} {G : Nat → Int} (hl : l0 = l) (hl6 : l < 6) (h1 : M 171 l = (a : Int)) (h2 : M 171 (l + 1) = ((a + n : Nat) : Int)) (ha : a + n ≤ 40) (hg : og + gr ≤ 40) (hb : base = b) (hb4 : b + 40 ≤ 4040) (hn8 : n ≤ 8) (hgr8 : gr ≤ 8) (hgp : cu_gp G n gr) (hG : ∀ k, k < n → M 173 (a + k) = (og : Int) + G k) (hv : ∀ k, k < n → -60 ≤ M 179 (b + (a + k)) ∧ M 179 (b + (a + k)) ≤ 60) : E_C 15 [170, l0, base] M = some (cu_R G (fun k => M 179 (b + (a + k))) (fun y => M 172 (og + y)) n gr, M) := by
  have k := bx_27 (l0 := l0) ha hg hb hb4 hn8 hgr8 (x5 := ((a + n : Nat) : Int)) rfl hgp hG hv n 0 0 0 (a : Int) rfl (by omega) rfl
  rw [cu_st_ok hgp] at k
  have i1 : l0 + 1 = ((l + 1 : Nat) : Int) := by omega
  have t1 : E_C 146 [171, l0] M = some ((a : Int), M) := (w_atN (a := 171) (n := 7) (by decide +kernel) (j := l) hl (by omega) M).trans (by rw [show M (171 : Int).toNat l = (a : Int) from h1])
  have t2 : E_C 146 [171, l0 + 1] M = some (((a + n : Nat) : Int), M) := (w_atN (a := 171) (n := 7) (by decide +kernel) (j := l + 1) i1 (by omega) M).trans (by rw [show M (171 : Int).toNat (l + 1) = ((a + n : Nat) : Int) from h2])
  clear hgp hG hv h1 h2
  generalize ((a + n : Nat) : Int) = an at t2 k
  generalize (a : Int) = aa at t1 k
  have w1 : e_w (l0 + 1) = l0 + 1 := a_w_id (by omega) (by omega)
  rw [r_ent (show e_rok 15 [170, l0, base] = true from bx_r (M := M) rfl (by decide +kernel))]
  show e_tv E_C (E_V 15) e_t15_0 [170, l0, base, 0, 0, 0, 0] M = _
  unfold e_t15_0
  simp [zq_a, zq_b, zq_c, zq_d, zq_e, zq_f, zq_g, zq_h, zq_i, zq_j, zq_k, zq_l, zq_m, zq_n, zq_o, zq_p, zq_q, zq_r, zq_s, zq_t, zq_u, zq_v, zq_w, zq_x, zq_y, zq_z, zq_A, zq_B, zq_C, zq_D, zq_E, zq_F, zq_G, zq_H, zq_I, zq_J, zq_K, zq_L, ↓zq_M, ↓zq_N, ↓zq_O, ↓zq_P, ↓zq_Q, ↓zq_R, zq_S, zq_T, zq_U, zq_V, zq_W, zq_X, zq_Y, zq_Z, zq_0, zq_1, zq_2, zq_3, zq_4, zq_5, ↓zq_6, ↓zq_7, ↓zq_8, ↓zq_9, ↓zq_aa, zq_ab, zq_ac, zq_ad, zq_ae, zq_af, zq_ag, ↓zq_ah, ↓zq_ai, ↓zq_aj, zq_ak, ↓zq_al, ↓zq_am, e_b1, e_b2, x_o1, x_o2, bx_G8, w1, t1, t2, k]
end
section
/-! CURRENTS of lines summed; BEST: by the class, exactly -/
section BXC
variable {f : Nat → Int} {lo hi : Int}
theorem bx_11l {N : EM} {u : Int} {m : Nat} (hlo : -1000 ≤ lo ∧ lo ≤ 1000) (hu : u = lo + m) (hm : m < 1000) (hf : ∀ c, c < 100 → N 180 c = f c) (hfall : ∀ c, c < 99 → f (c + 1) ≤ f c) (hb : 0 ≤ N 181 m ∧ N 181 m ≤ 100000) : ∀ (t c : Nat) (x3 : Int), x3 = c → c + t = 99 → (c = 0 ∨ u ≤ f c) → E_V 18 11 [170, lo, hi, x3, u] N = E_V 18 5 [170, lo, hi, (cu_cu f u 99 : Int), u - 1] (e_up N 181 m (N 181 m + (cu_cu f u 99 : Int))) := by
  have i1 : u - lo = (m : Int) := by omega
  have fin : ∀ (c : Nat) (x3 : Int), x3 = c → c ≤ 99 → (c = 0 ∨ u ≤ f c) → (c + 1 ≤ 99 → f (c + 1) < u) → E_V 18 11 [170, lo, hi, x3, u] N = E_V 18 5 [170, lo, hi, (cu_cu f u 99 : Int), u - 1] (e_up N 181 m (N 181 m + (cu_cu f u 99 : Int))) := by
    intro c x3 hx hc h0 h1
    rw [cu_cu_f hfall h0 hc h1, ← hx]
    have t1 : E_C 146 [181, u - lo] N = some (N 181 m, N) := w_atN (a := 181) (n := 1000) (by decide +kernel) (j := m) i1 hm N
    have l1 : ∀ v, E_C 147 [181, u - lo, v] N = some (0, e_up N 181 m v) := fun v => w_layN (a := 181) (n := 1000) (by decide +kernel) (j := m) i1 hm v N
    have w1 : e_w (u - lo) = u - lo := a_w_id (by omega) (by omega)
    have w2 : e_w (x3 + 1) = x3 + 1 := a_w_id (by omega) (by omega)
    have w3 : e_w (N 181 m + x3) = N 181 m + x3 := a_w_id (by omega) (by omega)
    have w4 : e_w (u + -1) = u - 1 := (a_w_id (by omega) (by omega)).trans (by omega)
    rw [E_V_eq]
    show e_tv E_C (E_V 18) e_t18_11 [170, lo, hi, x3, u] N = _
    unfold e_t18_11
    by_cases c9 : c = 99
    · have q : ¬ (x3 + 1 < 100) := by omega
      clear hf hfall h1 h0
      simp [zq_a, zq_b, zq_c, zq_d, zq_e, zq_f, zq_g, zq_h, zq_i, zq_j, zq_k, zq_l, zq_m, zq_n, zq_o, zq_p, zq_q, zq_r, zq_s, zq_t, zq_u, zq_v, zq_w, zq_x, zq_y, zq_z, zq_A, zq_B, zq_C, zq_D, zq_E, zq_F, zq_G, zq_H, zq_I, zq_J, zq_K, zq_L, ↓zq_M, ↓zq_N, ↓zq_O, ↓zq_P, ↓zq_Q, ↓zq_R, zq_S, zq_T, zq_U, zq_V, zq_W, zq_X, zq_Y, zq_Z, zq_0, zq_1, zq_2, zq_3, zq_4, zq_5, ↓zq_6, ↓zq_7, ↓zq_8, ↓zq_9, ↓zq_aa, zq_ab, zq_ac, zq_ad, zq_ae, zq_af, zq_ag, ↓zq_ah, ↓zq_ai, ↓zq_aj, zq_ak, ↓zq_al, ↓zq_am, e_b1, e_b2, x_o1, x_o2, bx_Gi, q, w1, w2, w3, w4, t1, l1]
    · have q : x3 + 1 < 100 := by omega
      have t2 : E_C 146 [180, x3 + 1] N = some (f (c + 1), N) := (w_atN (a := 180) (n := 100) (by decide +kernel) (j := c + 1) (by omega) (by omega) N).trans (by rw [← hf (c + 1) (by omega)]; rfl)
      have z := h1 (by omega)
      clear hf hfall h1 h0
      revert t2 z
      generalize f (c + 1) = y
      intro t2 z
      have z_n : ¬ u ≤ y := by omega
      simp [zq_a, zq_b, zq_c, zq_d, zq_e, zq_f, zq_g, zq_h, zq_i, zq_j, zq_k, zq_l, zq_m, zq_n, zq_o, zq_p, zq_q, zq_r, zq_s, zq_t, zq_u, zq_v, zq_w, zq_x, zq_y, zq_z, zq_A, zq_B, zq_C, zq_D, zq_E, zq_F, zq_G, zq_H, zq_I, zq_J, zq_K, zq_L, ↓zq_M, ↓zq_N, ↓zq_O, ↓zq_P, ↓zq_Q, ↓zq_R, zq_S, zq_T, zq_U, zq_V, zq_W, zq_X, zq_Y, zq_Z, zq_0, zq_1, zq_2, zq_3, zq_4, zq_5, ↓zq_6, ↓zq_7, ↓zq_8, ↓zq_9, ↓zq_aa, zq_ab, zq_ac, zq_ad, zq_ae, zq_af, zq_ag, ↓zq_ah, ↓zq_ai, ↓zq_aj, zq_ak, ↓zq_al, ↓zq_am, e_b1, e_b2, x_o1, x_o2, bx_Gh, bx_Gi, q, w1, w2, w3, w4, t1, t2, l1, z, z_n]
  intro t
  induction t with
  | zero => intro c x3 hx hc h0; exact fin c x3 hx (by omega) h0 (fun h => by omega)
  | succ t ih =>
    intro c x3 hx hc h0
    rcases Int.lt_or_le (f (c + 1)) u with z | z
    · exact fin c x3 hx (by omega) h0 (fun _ => z)
    · have k := ih (c + 1) (x3 + 1) (by omega) (by omega) (Or.inr z)
      rw [← k]
      have w2 : e_w (x3 + 1) = x3 + 1 := a_w_id (by omega) (by omega)
      have q : x3 + 1 < 100 := by omega
      have t2 : E_C 146 [180, x3 + 1] N = some (f (c + 1), N) := (w_atN (a := 180) (n := 100) (by decide +kernel) (j := c + 1) (by omega) (by omega) N).trans (by rw [← hf (c + 1) (by omega)]; rfl)
      clear hf hfall h0 ih k fin
      revert t2 z
      generalize f (c + 1) = y
      intro z t2
      have z_n : ¬ y < u := by omega
      rw [E_V_eq]
      show e_tv E_C (E_V 18) e_t18_11 [170, lo, hi, x3, u] N = _
      unfold e_t18_11
      simp [zq_a, zq_b, zq_c, zq_d, zq_e, zq_f, zq_g, zq_h, zq_i, zq_j, zq_k, zq_l, zq_m, zq_n, zq_o, zq_p, zq_q, zq_r, zq_s, zq_t, zq_u, zq_v, zq_w, zq_x, zq_y, zq_z, zq_A, zq_B, zq_C, zq_D, zq_E, zq_F, zq_G, zq_H, zq_I, zq_J, zq_K, zq_L, ↓zq_M, ↓zq_N, ↓zq_O, ↓zq_P, ↓zq_Q, ↓zq_R, zq_S, zq_T, zq_U, zq_V, zq_W, zq_X, zq_Y, zq_Z, zq_0, zq_1, zq_2, zq_3, zq_4, zq_5, ↓zq_6, ↓zq_7, ↓zq_8, ↓zq_9, ↓zq_aa, zq_ab, zq_ac, zq_ad, zq_ae, zq_af, zq_ag, ↓zq_ah, ↓zq_ai, ↓zq_aj, zq_ak, ↓zq_al, ↓zq_am, e_b1, e_b2, x_o1, x_o2, bx_Gh, q, w2, t2, z, z_n]
theorem bx_18 {M : EM} {n : Nat} (hlo : -1000 ≤ lo ∧ lo ≤ 1000) (hn : hi - lo + 1 = n) (hn9 : n ≤ 1000) (hf : ∀ c, c < 100 → M 180 c = f c) (hfall : ∀ c, c < 99 → f (c + 1) ≤ f c) (hb : ∀ k, k < 1000 → 0 ≤ M 181 k ∧ M 181 k ≤ 100000) : ∃ M', E_C 18 [170, lo, hi] M = some (0, M') ∧ (∀ k, k < n → M' 181 k = M 181 k + (cu_cu f (lo + (k : Int)) 99 : Int)) ∧ ∀ id k, ¬ (id = 181 ∧ k < n) → M' id k = M id k := by
  have lp : ∀ (m c : Nat) (x3 u : Int) (N : EM), u = lo + (m : Int) - 1 → m ≤ n → x3 = c → c ≤ 99 → (c = 0 ∨ u ≤ f c) → (∀ k, m ≤ k → k < n → N 181 k = M 181 k + (cu_cu f (lo + (k : Int)) 99 : Int)) → (∀ id k, ¬ (id = 181 ∧ m ≤ k ∧ k < n) → N id k = M id k) → ∃ M', E_V 18 5 [170, lo, hi, x3, u] N = some (0, M') ∧ (∀ k, k < n → M' 181 k = M 181 k + (cu_cu f (lo + (k : Int)) 99 : Int)) ∧ ∀ id k, ¬ (id = 181 ∧ k < n) → M' id k = M id k := by
    intro m
    induction m with
    | zero =>
      intro c x3 u N hu hm hx hc h0 h1 h2
      have q : ¬ (lo ≤ u) := by omega
      refine ⟨N, ?_, fun k hk => h1 k (Nat.zero_le _) hk, fun id k h => h2 id k (fun e => h ⟨e.1, e.2.2⟩)⟩
      rw [E_V_eq]
      show e_tv E_C (E_V 18) e_t18_5 [170, lo, hi, x3, u] N = _
      unfold e_t18_5
      simp [zq_a, zq_b, zq_c, zq_d, zq_e, zq_f, zq_g, zq_h, zq_i, zq_j, zq_k, zq_l, zq_m, zq_n, zq_o, zq_p, zq_q, zq_r, zq_s, zq_t, zq_u, zq_v, zq_w, zq_x, zq_y, zq_z, zq_A, zq_B, zq_C, zq_D, zq_E, zq_F, zq_G, zq_H, zq_I, zq_J, zq_K, zq_L, ↓zq_M, ↓zq_N, ↓zq_O, ↓zq_P, ↓zq_Q, ↓zq_R, zq_S, zq_T, zq_U, zq_V, zq_W, zq_X, zq_Y, zq_Z, zq_0, zq_1, zq_2, zq_3, zq_4, zq_5, ↓zq_6, ↓zq_7, ↓zq_8, ↓zq_9, ↓zq_aa, zq_ab, zq_ac, zq_ad, zq_ae, zq_af, zq_ag, ↓zq_ah, ↓zq_ai, ↓zq_aj, zq_ak, ↓zq_al, ↓zq_am, e_b1, e_b2, x_o1, x_o2, q]
    | succ m ih =>
      intro c x3 u N hu hm hx hc h0 h1 h2
      have q : lo ≤ u := by omega
      have u' : u = lo + (m : Int) := by omega
      have nm := h2 181 m (by omega)
      have k := bx_11l (hi := hi) (N := N) hlo u' (by omega) (fun c hc => (h2 180 c (by omega)).trans (hf c hc)) hfall (by rw [nm]; exact hb m (by omega)) (99 - c) c x3 hx (by omega) h0
      have s := cu_cu_s (f := f) (u := u) 99
      have sl := cu_cu_le (f := f) (u := u) 99
      obtain ⟨M', z, z2, z3⟩ := ih (cu_cu f u 99) (cu_cu f u 99 : Int) (u - 1) (e_up N 181 m (N 181 m + (cu_cu f u 99 : Int))) (by omega) (by omega) rfl sl (by rcases s.1 with s | s; exact Or.inl s; exact Or.inr (by omega)) (fun k k1 k2 => by
        by_cases e : k = m
        · subst e
          rw [c_up_s, nm, u']
        · rw [c_up_n (by omega)]
          exact h1 k (by omega) k2) (fun id k h => by
        rw [c_up_n (by omega)]
        exact h2 id k (by omega))
      refine ⟨M', ?_, z2, z3⟩
      rw [← z, ← k]
      clear z z2 z3 k ih h1 h2 hf hfall hb
      rw [E_V_eq]
      show e_tv E_C (E_V 18) e_t18_5 [170, lo, hi, x3, u] N = _
      unfold e_t18_5
      simp [zq_a, zq_b, zq_c, zq_d, zq_e, zq_f, zq_g, zq_h, zq_i, zq_j, zq_k, zq_l, zq_m, zq_n, zq_o, zq_p, zq_q, zq_r, zq_s, zq_t, zq_u, zq_v, zq_w, zq_x, zq_y, zq_z, zq_A, zq_B, zq_C, zq_D, zq_E, zq_F, zq_G, zq_H, zq_I, zq_J, zq_K, zq_L, ↓zq_M, ↓zq_N, ↓zq_O, ↓zq_P, ↓zq_Q, ↓zq_R, zq_S, zq_T, zq_U, zq_V, zq_W, zq_X, zq_Y, zq_Z, zq_0, zq_1, zq_2, zq_3, zq_4, zq_5, ↓zq_6, ↓zq_7, ↓zq_8, ↓zq_9, ↓zq_aa, zq_ab, zq_ac, zq_ad, zq_ae, zq_af, zq_ag, ↓zq_ah, ↓zq_ai, ↓zq_aj, zq_ak, ↓zq_al, ↓zq_am, e_b1, e_b2, x_o1, x_o2, q]
  obtain ⟨M', k, kk⟩ := lp n 0 0 hi M (by omega) (Nat.le_refl _) rfl (by decide) (Or.inl rfl) (fun k h1 h2 => by omega) (fun _ _ _ => rfl)
  refine ⟨M', ?_, kk⟩
  rw [r_ent (show e_rok 18 [170, lo, hi] = true from bx_r (M := M) rfl (by decide +kernel))]
  show e_tv E_C (E_V 18) e_t18_0 [170, lo, hi, 0, 0] M = _
  unfold e_t18_0
  simp [zq_a, zq_b, zq_c, zq_d, zq_e, zq_f, zq_g, zq_h, zq_i, zq_j, zq_k, zq_l, zq_m, zq_n, zq_o, zq_p, zq_q, zq_r, zq_s, zq_t, zq_u, zq_v, zq_w, zq_x, zq_y, zq_z, zq_A, zq_B, zq_C, zq_D, zq_E, zq_F, zq_G, zq_H, zq_I, zq_J, zq_K, zq_L, ↓zq_M, ↓zq_N, ↓zq_O, ↓zq_P, ↓zq_Q, ↓zq_R, zq_S, zq_T, zq_U, zq_V, zq_W, zq_X, zq_Y, zq_Z, zq_0, zq_1, zq_2, zq_3, zq_4, zq_5, ↓zq_6, ↓zq_7, ↓zq_8, ↓zq_9, ↓zq_aa, zq_ab, zq_ac, zq_ad, zq_ae, zq_af, zq_ag, ↓zq_ah, ↓zq_ai, ↓zq_aj, zq_ak, ↓zq_al, ↓zq_am, e_b1, e_b2, x_o1, x_o2, k]
end BXC
section BXS
variable {F : Nat → Nat → Int} {lo hi : Int}
/-- what pushOfLine answers, however rows 180, 181 stand -/
def bx_FL (M : EM) (F : Nat → Nat → Int) (L : Nat) : Prop := ∀ (l c : Nat) (l0 b0 : Int) (N : EM), l < L → c < 100 → l0 = l → b0 = 40 * (c : Int) → (∀ id k, id ≠ 180 → id ≠ 181 → ¬ (id = 170 ∧ k = 6) → N id k = M id k) → E_C 15 [170, l0, b0] N = some (F l c, N)
theorem bx_26 {M : EM} {L l : Nat} {l0 : Int} (hF : bx_FL M F L) (hl : l < L) (hl0 : l0 = l) : ∀ (d c : Nat) (x4 : Int) (N : EM), x4 = c → c + d = 100 → (∀ c', c' < c → N 180 c' = F l c') → (∀ id k, id ≠ 180 → id ≠ 181 → ¬ (id = 170 ∧ k = 6) → N id k = M id k) → ∃ N', E_V 17 26 [170, lo, hi, l0, x4] N = (E_C 18 [170, lo, hi] N').bind (fun r => E_V 17 15 [170, lo, hi, e_w (l0 + 1), 100] r.2) ∧ (∀ c, c < 100 → N' 180 c = F l c) ∧ ∀ id k, id ≠ 180 → N' id k = N id k := by
  intro d
  induction d with
  | zero =>
    intro c x4 N hx hc h1 h2
    have e : x4 = 100 := by omega
    subst e
    refine ⟨N, ?_, fun c' h => h1 c' (by omega), fun _ _ _ => rfl⟩
    rw [E_V_eq]
    show e_tv E_C (E_V 17) e_t17_26 [170, lo, hi, l0, 100] N = _
    unfold e_t17_26
    cases h : E_C 18 [170, lo, hi] N with
    | none => simp [e_tv, e_ev, e_sv, e_b1, e_b2, x_o1, x_o2, h]
    | some r => simp [e_tv, e_ev, e_sv, e_b1, e_b2, x_o1, x_o2, h]
  | succ d ih =>
    intro c x4 N hx hc h1 h2
    have q : x4 < 100 := by omega
    have kp := hF l c l0 (x4 * 40) N hl (by omega) hl0 (by omega) h2
    have l1 : ∀ v, E_C 147 [180, x4, v] N = some (0, e_up N 180 c v) := fun v => w_layN (a := 180) (n := 100) (by decide +kernel) (j := c) hx (by omega) v N
    obtain ⟨N', k, k2, k3⟩ := ih (c + 1) (x4 + 1) (e_up N 180 c (F l c)) (by omega) (by omega) (fun c' h => by
      by_cases e : c' = c
      · rw [e, c_up_s]
      · rw [c_up_n (by omega)]
        exact h1 c' (by omega)) (fun id k a b e => by
      rw [c_up_n (by omega)]
      exact h2 id k a b e)
    refine ⟨N', ?_, k2, fun id k h => (k3 id k h).trans (c_up_n (by omega))⟩
    rw [← k]
    clear ih k k2 k3 h1 h2 hF
    have w1 : e_w (x4 * 40) = x4 * 40 := a_w_id (by omega) (by omega)
    have w2 : e_w (x4 + 1) = x4 + 1 := a_w_id (by omega) (by omega)
    rw [E_V_eq]
    show e_tv E_C (E_V 17) e_t17_26 [170, lo, hi, l0, x4] N = _
    unfold e_t17_26
    simp [e_tv, e_ev, e_sv, e_b1, e_b2, x_o1, x_o2, bx_Gh, q, w1, w2, kp, l1]
theorem bx_17 {M : EM} {L n : Nat} (hL : M 170 5 = L) (hL6 : L ≤ 6) (hlo : -1000 ≤ lo ∧ lo ≤ 1000) (hn : hi - lo + 1 = n) (hn9 : n ≤ 1000) (hF : bx_FL M F L) (hfall : ∀ l, l < L → ∀ c, c < 99 → F l (c + 1) ≤ F l c) : ∃ M', E_C 17 [170, lo, hi] M = some (0, M') ∧ M' 170 6 = lo ∧ (∀ k, k < n → M' 181 k = cu_S F (lo + (k : Int)) L) ∧ ∀ id k, id ≠ 180 → id ≠ 181 → ¬ (id = 170 ∧ k = 6) → M' id k = M id k := by
  have lp : ∀ (d l : Nat) (l0 x4 : Int) (N : EM), l0 = l → l + d = L → N 170 6 = lo → (∀ k, k < n → N 181 k = cu_S F (lo + (k : Int)) l) → (∀ k, n ≤ k → k < 1000 → N 181 k = 0) → (∀ id k, id ≠ 180 → id ≠ 181 → ¬ (id = 170 ∧ k = 6) → N id k = M id k) → ∃ M', E_V 17 15 [170, lo, hi, l0, x4] N = some (0, M') ∧ M' 170 6 = lo ∧ (∀ k, k < n → M' 181 k = cu_S F (lo + (k : Int)) L) ∧ ∀ id k, id ≠ 180 → id ≠ 181 → ¬ (id = 170 ∧ k = 6) → M' id k = M id k := by
    intro d
    induction d with
    | zero =>
      intro l l0 x4 N hl0 hl h6 h1 h3 h2
      have e : l = L := by omega
      subst e
      have z := (h2 170 5 (by decide) (by decide) (by decide)).trans hL
      obtain ⟨LL, hLL⟩ : ∃ LL : Int, (l : Int) = LL := ⟨_, rfl⟩
      rw [hLL] at z
      have q : ¬ (l0 < LL) := by omega
      refine ⟨N, ?_, h6, h1, h2⟩
      rw [E_V_eq]
      show e_tv E_C (E_V 17) e_t17_15 [170, lo, hi, l0, x4] N = _
      unfold e_t17_15
      simp [zq_a, zq_b, zq_c, zq_d, zq_e, zq_f, zq_g, zq_h, zq_i, zq_j, zq_k, zq_l, zq_m, zq_n, zq_o, zq_p, zq_q, zq_r, zq_s, zq_t, zq_u, zq_v, zq_w, zq_x, zq_y, zq_z, zq_A, zq_B, zq_C, zq_D, zq_E, zq_F, zq_G, zq_H, zq_I, zq_J, zq_K, zq_L, ↓zq_M, ↓zq_N, ↓zq_O, ↓zq_P, ↓zq_Q, ↓zq_R, zq_S, zq_T, zq_U, zq_V, zq_W, zq_X, zq_Y, zq_Z, zq_0, zq_1, zq_2, zq_3, zq_4, zq_5, ↓zq_6, ↓zq_7, ↓zq_8, ↓zq_9, ↓zq_aa, zq_ab, zq_ac, zq_ad, zq_ae, zq_af, zq_ag, ↓zq_ah, ↓zq_ai, ↓zq_aj, zq_ak, ↓zq_al, ↓zq_am, e_b1, e_b2, x_o1, x_o2, bx_F5, z, q]
    | succ d ih =>
      intro l l0 x4 N hl0 hl h6 h1 h3 h2
      have z := (h2 170 5 (by decide) (by decide) (by decide)).trans hL
      obtain ⟨LL, hLL⟩ : ∃ LL : Int, (L : Int) = LL := ⟨_, rfl⟩
      rw [hLL] at z
      have q : l0 < LL := by omega
      obtain ⟨N1, k, k2, k3⟩ := bx_26 (lo := lo) (hi := hi) hF (show l < L by omega) hl0 100 0 0 N rfl rfl (fun c' h => absurd h (Nat.not_lt_zero _)) h2
      have bd : ∀ k, k < 1000 → 0 ≤ N1 181 k ∧ N1 181 k ≤ 100000 := fun k hk => by
        rw [k3 _ _ (by decide)]
        rcases Nat.lt_or_ge k n with c | c
        · rw [h1 k c]
          have := cu_S_bd (F := F) (u := lo + (k : Int)) l
          omega
        · rw [h3 k c hk]; decide
      obtain ⟨N2, m, m2, m3⟩ := bx_18 (hi := hi) (f := F l) hlo hn hn9 k2 (hfall l (by omega)) bd
      obtain ⟨M', y, y2⟩ := ih (l + 1) (l0 + 1) 100 N2 (by omega) (by omega) ((m3 _ _ (by omega)).trans ((k3 _ _ (by decide)).trans h6)) (fun k hk => by
        rw [m2 k hk, k3 _ _ (by decide), h1 k hk]
        rfl) (fun k a b => by rw [m3 _ _ (by omega), k3 _ _ (by decide)]; exact h3 k a b) (fun id k a b e => by
        rw [m3 _ _ (by omega), k3 _ _ a]
        exact h2 id k a b e)
      refine ⟨M', ?_, y2⟩
      have w : e_w (l0 + 1) = l0 + 1 := a_w_id (by omega) (by omega)
      rw [m, w] at k
      have k' : E_V 17 26 [170, lo, hi, l0, 0] N = E_V 17 15 [170, lo, hi, l0 + 1, 100] N2 := k
      rw [← y, ← k']
      clear ih k k' k2 k3 m m2 m3 y y2 h1 h2 h3 hF bd hfall
      rw [E_V_eq]
      show e_tv E_C (E_V 17) e_t17_15 [170, lo, hi, l0, x4] N = _
      unfold e_t17_15
      simp [zq_a, zq_b, zq_c, zq_d, zq_e, zq_f, zq_g, zq_h, zq_i, zq_j, zq_k, zq_l, zq_m, zq_n, zq_o, zq_p, zq_q, zq_r, zq_s, zq_t, zq_u, zq_v, zq_w, zq_x, zq_y, zq_z, zq_A, zq_B, zq_C, zq_D, zq_E, zq_F, zq_G, zq_H, zq_I, zq_J, zq_K, zq_L, ↓zq_M, ↓zq_N, ↓zq_O, ↓zq_P, ↓zq_Q, ↓zq_R, zq_S, zq_T, zq_U, zq_V, zq_W, zq_X, zq_Y, zq_Z, zq_0, zq_1, zq_2, zq_3, zq_4, zq_5, ↓zq_6, ↓zq_7, ↓zq_8, ↓zq_9, ↓zq_aa, zq_ab, zq_ac, zq_ad, zq_ae, zq_af, zq_ag, ↓zq_ah, ↓zq_ai, ↓zq_aj, zq_ak, ↓zq_al, ↓zq_am, e_b1, e_b2, x_o1, x_o2, bx_F5, z, q]
  obtain ⟨M', k, kk⟩ := lp L 0 0 0 (bx_fl (e_up M 170 6 lo) 181 1000 0 0) rfl (by omega) (by
    unfold bx_fl
    rw [if_neg (by omega), c_up_s]) (fun k hk => if_pos ⟨rfl, Nat.zero_le _, by omega⟩) (fun k a b => if_pos ⟨rfl, Nat.zero_le _, b⟩) (fun id k a b e => by
    unfold bx_fl
    rw [if_neg (fun h => b h.1), c_up_n e])
  refine ⟨M', ?_, kk⟩
  have fl := bx_fill (a := 181) (n := 1000) (v := 0) (by decide) (by decide) (by decide +kernel) (by decide) (e_up M 170 6 lo)
  have fl' : E_C 270 [181, 0] (e_up M 170 6 lo) = some (0, bx_fl (e_up M 170 6 lo) 181 1000 0 0) := fl
  rw [r_ent (show e_rok 17 [170, lo, hi] = true from bx_r (M := M) rfl (by decide +kernel))]
  show e_tv E_C (E_V 17) e_t17_0 [170, lo, hi, 0, 0] M = _
  unfold e_t17_0
  simp [zq_a, zq_b, zq_c, zq_d, zq_e, zq_f, zq_g, zq_h, zq_i, zq_j, zq_k, zq_l, zq_m, zq_n, zq_o, zq_p, zq_q, zq_r, zq_s, zq_t, zq_u, zq_v, zq_w, zq_x, zq_y, zq_z, zq_A, zq_B, zq_C, zq_D, zq_E, zq_F, zq_G, zq_H, zq_I, zq_J, zq_K, zq_L, ↓zq_M, ↓zq_N, ↓zq_O, ↓zq_P, ↓zq_Q, ↓zq_R, zq_S, zq_T, zq_U, zq_V, zq_W, zq_X, zq_Y, zq_Z, zq_0, zq_1, zq_2, zq_3, zq_4, zq_5, ↓zq_6, ↓zq_7, ↓zq_8, ↓zq_9, ↓zq_aa, zq_ab, zq_ac, zq_ad, zq_ae, zq_af, zq_ag, ↓zq_ah, ↓zq_ai, ↓zq_aj, zq_ak, ↓zq_al, ↓zq_am, e_b1, e_b2, x_o1, x_o2, bx_Gi, bx_P6, fl', k]
end BXS
theorem bx_19 {M : EM} {u lo : Int} {k : Nat} (h6 : M 170 6 = lo) (hlo : -1000 ≤ lo ∧ lo ≤ 1000) (hk : u - lo = k) (h9 : k < 1000) : E_C 19 [170, u] M = some (M 181 k, M) := by
  have t : E_C 146 [181, u - lo] M = some (M 181 k, M) := w_atN (a := 181) (n := 1000) (by decide +kernel) (j := k) hk h9 M
  have w : e_w (u - lo) = u - lo := a_w_id (by omega) (by omega)
  rw [r_ent (show e_rok 19 [170, u] = true from bx_r (M := M) rfl (by decide +kernel))]
  show e_tv E_C (E_V 19) e_t19_0 [170, u] M = _
  unfold e_t19_0
  simp [zq_a, zq_b, zq_c, zq_d, zq_e, zq_f, zq_g, zq_h, zq_i, zq_j, zq_k, zq_l, zq_m, zq_n, zq_o, zq_p, zq_q, zq_r, zq_s, zq_t, zq_u, zq_v, zq_w, zq_x, zq_y, zq_z, zq_A, zq_B, zq_C, zq_D, zq_E, zq_F, zq_G, zq_H, zq_I, zq_J, zq_K, zq_L, ↓zq_M, ↓zq_N, ↓zq_O, ↓zq_P, ↓zq_Q, ↓zq_R, zq_S, zq_T, zq_U, zq_V, zq_W, zq_X, zq_Y, zq_Z, zq_0, zq_1, zq_2, zq_3, zq_4, zq_5, ↓zq_6, ↓zq_7, ↓zq_8, ↓zq_9, ↓zq_aa, zq_ab, zq_ac, zq_ad, zq_ae, zq_af, zq_ag, ↓zq_ah, ↓zq_ai, ↓zq_aj, zq_ak, ↓zq_al, ↓zq_am, e_b1, e_b2, x_o1, x_o2, bx_Gi, bx_F6, h6, w, t]
theorem bx_pw {u z : Int} (hu : 0 ≤ u ∧ u ≤ 1000) (hz : 0 ≤ z ∧ z ≤ 1000) : e_w (u * z) = u * z ∧ 0 ≤ u * z ∧ u * z ≤ 1000000 := by
  have a : 0 ≤ u * z := Int.mul_nonneg hu.1 hz.1
  have b : u * z ≤ u * 1000 := Int.mul_le_mul_of_nonneg_left hz.2 hu.1
  have c : u * z ≤ 1000000 := by omega
  exact ⟨a_w_id (by omega) (by omega), a, c⟩
theorem bx_20 {M : EM} {u : Int} {k : Nat} (h6 : M 170 6 = 0) (hk : u = k) (h9 : k < 1000) (hb : 0 ≤ M 181 k ∧ M 181 k ≤ 1000) : E_C 20 [170, u] M = some (u * M 181 k, M) := by
  have t := bx_19 (u := u) (k := k) h6 (by decide) (by omega) h9
  have w := (bx_pw (u := u) (z := M 181 k) ⟨by omega, by omega⟩ hb).1
  rw [r_ent (show e_rok 20 [170, u] = true from bx_r (M := M) rfl (by decide +kernel))]
  show e_tv E_C (E_V 20) e_t20_0 [170, u] M = _
  unfold e_t20_0
  simp [zq_a, zq_b, zq_c, zq_d, zq_e, zq_f, zq_g, zq_h, zq_i, zq_j, zq_k, zq_l, zq_m, zq_n, zq_o, zq_p, zq_q, zq_r, zq_s, zq_t, zq_u, zq_v, zq_w, zq_x, zq_y, zq_z, zq_A, zq_B, zq_C, zq_D, zq_E, zq_F, zq_G, zq_H, zq_I, zq_J, zq_K, zq_L, ↓zq_M, ↓zq_N, ↓zq_O, ↓zq_P, ↓zq_Q, ↓zq_R, zq_S, zq_T, zq_U, zq_V, zq_W, zq_X, zq_Y, zq_Z, zq_0, zq_1, zq_2, zq_3, zq_4, zq_5, ↓zq_6, ↓zq_7, ↓zq_8, ↓zq_9, ↓zq_aa, zq_ab, zq_ac, zq_ad, zq_ae, zq_af, zq_ag, ↓zq_ah, ↓zq_ai, ↓zq_aj, zq_ak, ↓zq_al, ↓zq_am, e_b1, e_b2, x_o1, x_o2, t, w]
/-- BEST -/
theorem bx_22 {M : EM} {s : Nat → Int} (h6 : M 170 6 = 0) (hs : ∀ u, u ≤ 500 → M 181 u = s u) (hb : ∀ u, u ≤ 500 → 0 ≤ s u ∧ s u ≤ 1000) : ∃ M', E_C 22 [170] M = some (0, M') ∧ M' 170 2 = (cu_b s 500 : Int) ∧ M' 170 1 = (cu_b s 500 : Int) * s (cu_b s 500) ∧ ∀ id k, ¬ (id = 170 ∧ (k = 1 ∨ k = 2)) → M' id k = M id k := by
  have lp : ∀ (d u b : Nat) (x1 : Int) (N : EM), x1 = u → u + d = 501 → 1 ≤ u → b = cu_b s (u - 1) → N 170 2 = (b : Int) → N 170 1 = (b : Int) * s b → (∀ id k, ¬ (id = 170 ∧ (k = 1 ∨ k = 2)) → N id k = M id k) → ∃ M', E_V 22 12 [170, x1] N = some (0, M') ∧ M' 170 2 = (cu_b s 500 : Int) ∧ M' 170 1 = (cu_b s 500 : Int) * s (cu_b s 500) ∧ ∀ id k, ¬ (id = 170 ∧ (k = 1 ∨ k = 2)) → M' id k = M id k := by
    intro d
    induction d with
    | zero =>
      intro u b x1 N hx hu h1 hb' n2 n1 hf
      have q : ¬ (x1 ≤ 500) := by omega
      have e : u - 1 = 500 := by omega
      rw [e] at hb'
      refine ⟨N, ?_, by rw [n2, hb'], by rw [n1, hb'], hf⟩
      rw [E_V_eq]
      show e_tv E_C (E_V 22) e_t22_12 [170, x1] N = _
      unfold e_t22_12
      simp [zq_a, zq_b, zq_c, zq_d, zq_e, zq_f, zq_g, zq_h, zq_i, zq_j, zq_k, zq_l, zq_m, zq_n, zq_o, zq_p, zq_q, zq_r, zq_s, zq_t, zq_u, zq_v, zq_w, zq_x, zq_y, zq_z, zq_A, zq_B, zq_C, zq_D, zq_E, zq_F, zq_G, zq_H, zq_I, zq_J, zq_K, zq_L, ↓zq_M, ↓zq_N, ↓zq_O, ↓zq_P, ↓zq_Q, ↓zq_R, zq_S, zq_T, zq_U, zq_V, zq_W, zq_X, zq_Y, zq_Z, zq_0, zq_1, zq_2, zq_3, zq_4, zq_5, ↓zq_6, ↓zq_7, ↓zq_8, ↓zq_9, ↓zq_aa, zq_ab, zq_ac, zq_ad, zq_ae, zq_af, zq_ag, ↓zq_ah, ↓zq_ai, ↓zq_aj, zq_ak, ↓zq_al, ↓zq_am, e_b1, e_b2, x_o1, x_o2, q]
    | succ d ih =>
      intro u b x1 N hx hu h1 hb' n2 n1 hf
      have q : x1 ≤ 500 := by omega
      have kp := fun N : EM => fun (h6 : N 170 6 = 0) (hh : N 181 u = s u) => bx_20 (M := N) (u := x1) (k := u) h6 hx (by omega) (by rw [hh]; exact hb u (by omega))
      have kN := kp N ((hf _ _ (by omega)).trans h6) ((hf _ _ (by omega)).trans (hs u (by omega)))
      rw [show N 181 u = s u from (hf _ _ (by omega)).trans (hs u (by omega))] at kN
      have w : e_w (x1 + 1) = x1 + 1 := a_w_id (by omega) (by omega)
      have s45 : ∀ K, E_V 22 45 [170, x1] K = E_V 22 12 [170, x1 + 1] K := fun K => by
        rw [E_V_eq]
        show e_tv E_C (E_V 22) e_t22_45 [170, x1] K = _
        unfold e_t22_45
        simp [zq_a, zq_b, zq_c, zq_d, zq_e, zq_f, zq_g, zq_h, zq_i, zq_j, zq_k, zq_l, zq_m, zq_n, zq_o, zq_p, zq_q, zq_r, zq_s, zq_t, zq_u, zq_v, zq_w, zq_x, zq_y, zq_z, zq_A, zq_B, zq_C, zq_D, zq_E, zq_F, zq_G, zq_H, zq_I, zq_J, zq_K, zq_L, ↓zq_M, ↓zq_N, ↓zq_O, ↓zq_P, ↓zq_Q, ↓zq_R, zq_S, zq_T, zq_U, zq_V, zq_W, zq_X, zq_Y, zq_Z, zq_0, zq_1, zq_2, zq_3, zq_4, zq_5, ↓zq_6, ↓zq_7, ↓zq_8, ↓zq_9, ↓zq_aa, zq_ab, zq_ac, zq_ad, zq_ae, zq_af, zq_ag, ↓zq_ah, ↓zq_ai, ↓zq_aj, zq_ak, ↓zq_al, ↓zq_am, e_b1, e_b2, x_o1, x_o2, w]
      have ecb : cu_b s u = if (b : Int) * s b < (u : Int) * s u then u else b := by
        obtain ⟨v, rfl⟩ : ∃ v, u = v + 1 := ⟨u - 1, by omega⟩
        rw [show v + 1 - 1 = v by omega] at hb'
        rw [hb']
        rfl
      rcases Int.lt_or_le ((b : Int) * s b) ((u : Int) * s u) with c | c
      · rw [if_pos c] at ecb
        obtain ⟨N1, hN1⟩ : ∃ N1, e_up N 170 1 (x1 * s u) = N1 := ⟨_, rfl⟩
        have f1 : ∀ id k, ¬ (id = 170 ∧ k = 1) → N1 id k = N id k := fun id k h => by rw [← hN1, c_up_n h]
        obtain ⟨M', k, kk⟩ := ih (u + 1) u (x1 + 1) (e_up N1 170 2 x1) (by omega) (by omega) (by omega) (by rw [show u + 1 - 1 = u by omega, ecb]) (by rw [c_up_s, hx]) (by rw [c_up_n (by omega), ← hN1, c_up_s, hx]) (fun id k h => by
          rw [c_up_n (fun e => h ⟨e.1, Or.inr e.2⟩), f1 _ _ (fun e => h ⟨e.1, Or.inl e.2⟩)]
          exact hf id k h)
        refine ⟨M', ?_, kk⟩
        have c' : N 170 1 < x1 * s u := by rw [n1, hx]; exact c
        have c_n : ¬ (x1 * s u ≤ N 170 1) := by omega
        rw [← k, ← s45]
        clear ih k kk s45 hf hs hb ecb n1 c f1
        subst hN1
        rw [E_V_eq]
        show e_tv E_C (E_V 22) e_t22_12 [170, x1] N = _
        unfold e_t22_12
        simp [zq_a, zq_b, zq_c, zq_d, zq_e, zq_f, zq_g, zq_h, zq_i, zq_j, zq_k, zq_l, zq_m, zq_n, zq_o, zq_p, zq_q, zq_r, zq_s, zq_t, zq_u, zq_v, zq_w, zq_x, zq_y, zq_z, zq_A, zq_B, zq_C, zq_D, zq_E, zq_F, zq_G, zq_H, zq_I, zq_J, zq_K, zq_L, ↓zq_M, ↓zq_N, ↓zq_O, ↓zq_P, ↓zq_Q, ↓zq_R, zq_S, zq_T, zq_U, zq_V, zq_W, zq_X, zq_Y, zq_Z, zq_0, zq_1, zq_2, zq_3, zq_4, zq_5, ↓zq_6, ↓zq_7, ↓zq_8, ↓zq_9, ↓zq_aa, zq_ab, zq_ac, zq_ad, zq_ae, zq_af, zq_ag, ↓zq_ah, ↓zq_ai, ↓zq_aj, zq_ak, ↓zq_al, ↓zq_am, e_b1, e_b2, x_o1, x_o2, bx_F1, bx_P1, bx_P2, q, kN, c', c_n]
      · rw [if_neg (by omega)] at ecb
        obtain ⟨M', k, kk⟩ := ih (u + 1) b (x1 + 1) N (by omega) (by omega) (by omega) (by rw [show u + 1 - 1 = u by omega, ecb]) n2 n1 hf
        refine ⟨M', ?_, kk⟩
        have c' : ¬ (N 170 1 < x1 * s u) := by rw [n1, hx]; omega
        have c_n : x1 * s u ≤ N 170 1 := by omega
        rw [← k, ← s45]
        clear ih k kk s45 hf hs hb ecb n1 c
        rw [E_V_eq]
        show e_tv E_C (E_V 22) e_t22_12 [170, x1] N = _
        unfold e_t22_12
        simp [zq_a, zq_b, zq_c, zq_d, zq_e, zq_f, zq_g, zq_h, zq_i, zq_j, zq_k, zq_l, zq_m, zq_n, zq_o, zq_p, zq_q, zq_r, zq_s, zq_t, zq_u, zq_v, zq_w, zq_x, zq_y, zq_z, zq_A, zq_B, zq_C, zq_D, zq_E, zq_F, zq_G, zq_H, zq_I, zq_J, zq_K, zq_L, ↓zq_M, ↓zq_N, ↓zq_O, ↓zq_P, ↓zq_Q, ↓zq_R, zq_S, zq_T, zq_U, zq_V, zq_W, zq_X, zq_Y, zq_Z, zq_0, zq_1, zq_2, zq_3, zq_4, zq_5, ↓zq_6, ↓zq_7, ↓zq_8, ↓zq_9, ↓zq_aa, zq_ab, zq_ac, zq_ad, zq_ae, zq_af, zq_ag, ↓zq_ah, ↓zq_ai, ↓zq_aj, zq_ak, ↓zq_al, ↓zq_am, e_b1, e_b2, x_o1, x_o2, bx_F1, q, kN, c', c_n]
  obtain ⟨N, hN⟩ : ∃ N, e_up (e_up M 170 1 0) 170 2 0 = N := ⟨_, rfl⟩
  have fN : ∀ id k, ¬ (id = 170 ∧ (k = 1 ∨ k = 2)) → N id k = M id k := fun id k h => by
    rw [← hN, c_up_n (fun e => h ⟨e.1, Or.inr e.2⟩), c_up_n (fun e => h ⟨e.1, Or.inl e.2⟩)]
  have n2 : N 170 2 = 0 := by rw [← hN, c_up_s]
  have n1 : N 170 1 = 0 := by rw [← hN, c_up_n (by omega), c_up_s]
  obtain ⟨M', k, kk⟩ := lp 500 1 0 1 N rfl rfl (by decide) rfl n2 (by rw [n1]; exact (Int.zero_mul _).symm) fN
  refine ⟨M', ?_, kk⟩
  have e0 : N 181 0 = s 0 := (fN _ _ (by omega)).trans (hs 0 (by decide))
  have k0 := bx_20 (M := N) (u := 0) (k := 0) ((fN _ _ (by omega)).trans h6) rfl (by decide) (by rw [e0]; exact hb 0 (by decide))
  rw [Int.zero_mul] at k0
  have w : e_w 1 = 1 := a_w_id (by decide) (by decide)
  have k45 : E_V 22 45 [170, 0] N = some (0, M') := by
    rw [E_V_eq]
    show e_tv E_C (E_V 22) e_t22_45 [170, 0] N = _
    unfold e_t22_45
    simp [zq_a, zq_b, zq_c, zq_d, zq_e, zq_f, zq_g, zq_h, zq_i, zq_j, zq_k, zq_l, zq_m, zq_n, zq_o, zq_p, zq_q, zq_r, zq_s, zq_t, zq_u, zq_v, zq_w, zq_x, zq_y, zq_z, zq_A, zq_B, zq_C, zq_D, zq_E, zq_F, zq_G, zq_H, zq_I, zq_J, zq_K, zq_L, ↓zq_M, ↓zq_N, ↓zq_O, ↓zq_P, ↓zq_Q, ↓zq_R, zq_S, zq_T, zq_U, zq_V, zq_W, zq_X, zq_Y, zq_Z, zq_0, zq_1, zq_2, zq_3, zq_4, zq_5, ↓zq_6, ↓zq_7, ↓zq_8, ↓zq_9, ↓zq_aa, zq_ab, zq_ac, zq_ad, zq_ae, zq_af, zq_ag, ↓zq_ah, ↓zq_ai, ↓zq_aj, zq_ak, ↓zq_al, ↓zq_am, e_b1, e_b2, x_o1, x_o2, w, k]
  have k12 : E_V 22 12 [170, 0] N = some (0, M') := by
    rw [E_V_eq]
    show e_tv E_C (E_V 22) e_t22_12 [170, 0] N = _
    unfold e_t22_12
    simp [zq_a, zq_b, zq_c, zq_d, zq_e, zq_f, zq_g, zq_h, zq_i, zq_j, zq_k, zq_l, zq_m, zq_n, zq_o, zq_p, zq_q, zq_r, zq_s, zq_t, zq_u, zq_v, zq_w, zq_x, zq_y, zq_z, zq_A, zq_B, zq_C, zq_D, zq_E, zq_F, zq_G, zq_H, zq_I, zq_J, zq_K, zq_L, ↓zq_M, ↓zq_N, ↓zq_O, ↓zq_P, ↓zq_Q, ↓zq_R, zq_S, zq_T, zq_U, zq_V, zq_W, zq_X, zq_Y, zq_Z, zq_0, zq_1, zq_2, zq_3, zq_4, zq_5, ↓zq_6, ↓zq_7, ↓zq_8, ↓zq_9, ↓zq_aa, zq_ab, zq_ac, zq_ad, zq_ae, zq_af, zq_ag, ↓zq_ah, ↓zq_ai, ↓zq_aj, zq_ak, ↓zq_al, ↓zq_am, e_b1, e_b2, x_o1, x_o2, bx_F1, k0, n1, k45]
  rw [← hN] at k12
  rw [r_ent (show e_rok 22 [170] = true from bx_r (M := M) rfl (by decide +kernel))]
  show e_tv E_C (E_V 22) e_t22_0 [170, 0] M = _
  unfold e_t22_0
  simp [zq_a, zq_b, zq_c, zq_d, zq_e, zq_f, zq_g, zq_h, zq_i, zq_j, zq_k, zq_l, zq_m, zq_n, zq_o, zq_p, zq_q, zq_r, zq_s, zq_t, zq_u, zq_v, zq_w, zq_x, zq_y, zq_z, zq_A, zq_B, zq_C, zq_D, zq_E, zq_F, zq_G, zq_H, zq_I, zq_J, zq_K, zq_L, ↓zq_M, ↓zq_N, ↓zq_O, ↓zq_P, ↓zq_Q, ↓zq_R, zq_S, zq_T, zq_U, zq_V, zq_W, zq_X, zq_Y, zq_Z, zq_0, zq_1, zq_2, zq_3, zq_4, zq_5, ↓zq_6, ↓zq_7, ↓zq_8, ↓zq_9, ↓zq_aa, zq_ab, zq_ac, zq_ad, zq_ae, zq_af, zq_ag, ↓zq_ah, ↓zq_ai, ↓zq_aj, zq_ak, ↓zq_al, ↓zq_am, e_b1, e_b2, x_o1, x_o2, bx_P1, bx_P2, k12]
end
