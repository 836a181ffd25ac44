section
/-! what is told of CELLS: what keeps it; image and restore -/
def h_KC (dc s : Nat) : AW := [(21 + dc, 0, 159), (22 + dc, 0, 39), (23 + dc, 0, 39), (24 + dc, 0, 39), (s, 1198, 1198)] ++ (List.range 40).flatMap (fun q => [(s, 28 * q, 28 * q), (s, 28 * q + 15, 28 * q + 24)])
theorem h_keepC {dc s : Nat} {M M' : EM} (h : ∀ c ∈ h_KC dc s, ∀ k, c.2.1 ≤ k → k ≤ c.2.2 → M' c.1 k = M c.1 k) (h40 : M s 1198 ≤ 40) (hC : h_C M dc (fun i => M s i.toNat)) : h_C M' dc (fun i => M' s i.toNat) := by
  have m0 : ∀ c, c ∈ [(21 + dc, 0, 159), (22 + dc, 0, 39), (23 + dc, 0, 39), (24 + dc, 0, 39), (s, 1198, 1198)] → c ∈ h_KC dc s := fun c hc => List.mem_append.mpr (Or.inl hc)
  have e98 : M' s 1198 = M s 1198 := h (s, 1198, 1198) (m0 _ (by simp)) 1198 (Nat.le_refl _) (Nat.le_refl _)
  intro q hq
  have hq1 : (q : Int) < M' s 1198 := hq
  rw [e98] at hq1
  have q40 : q < 40 := by omega
  have mq : ∀ c, c ∈ [(s, 28 * q, 28 * q), (s, 28 * q + 15, 28 * q + 24)] → c ∈ h_KC dc s := fun c hc => List.mem_append.mpr (Or.inr (List.mem_flatMap.mpr ⟨q, List.mem_range.mpr q40, hc⟩))
  refine h_Cq_cg (hC q hq1) ?_ (fun d d0 d1 => ?_) (fun a ha => h (21 + dc, 0, 159) (m0 _ (by simp)) _ (Nat.zero_le _) (by show 4 * q + a ≤ 159; omega)) (h (22 + dc, 0, 39) (m0 _ (by simp)) _ (Nat.zero_le _) (by show q ≤ 39; omega)) (h (23 + dc, 0, 39) (m0 _ (by simp)) _ (Nat.zero_le _) (by show q ≤ 39; omega)) (h (24 + dc, 0, 39) (m0 _ (by simp)) _ (Nat.zero_le _) (by show q ≤ 39; omega))
  · have e := h _ (mq (s, 28 * q, 28 * q) (by simp)) (28 * q) (Nat.le_refl _) (Nat.le_refl _)
    show M' s (28 * (q : Int)).toNat = M s (28 * (q : Int)).toNat
    rw [show (28 * (q : Int)).toNat = 28 * q by omega]
    exact e
  · exact h _ (mq (s, 28 * q + 15, 28 * q + 24) (by simp)) (28 * (q : Int) + d).toNat (by show 28 * q + 15 ≤ _; omega) (by show _ ≤ 28 * q + 24; omega)
theorem h_C_tr {M M' : EM} {dc dc' : Nat} {g g' : Int → Int} (hC : h_C M dc g) (h40 : g 1198 ≤ 40) (eg : ∀ i : Int, 0 ≤ i → i < 1330 → g' i = g i) (c1 : ∀ j, j < 160 → M' (21 + dc') j = M (21 + dc) j) (c2 : ∀ j, j < 40 → M' (22 + dc') j = M (22 + dc) j ∧ M' (23 + dc') j = M (23 + dc) j ∧ M' (24 + dc') j = M (24 + dc) j) : h_C M' dc' g' := by
  intro q hq hk
  rw [eg 1198 (by decide) (by decide)] at hq
  have q40 : q < 40 := by omega
  rw [eg (28 * (q : Int)) (by omega) (by omega)] at hk
  obtain ⟨b1, b2, b3⟩ := c2 q q40
  obtain ⟨d1, d2, d3⟩ := hC q hq hk
  rw [b1, b2, b3, eg (28 * (q : Int) + 19) (by omega) (by omega), eg (28 * (q : Int) + 20) (by omega) (by omega), eg (28 * (q : Int) + 21) (by omega) (by omega), eg (28 * (q : Int) + 22) (by omega) (by omega), eg (28 * (q : Int) + 23) (by omega) (by omega), eg (28 * (q : Int) + 24) (by omega) (by omega)]
  refine ⟨fun a ha => ?_, d2, d3⟩
  rw [c1 _ (by omega), eg (28 * (q : Int) + 15 + (a : Int)) (by omega) (by omega)]
  exact d1 a ha
theorem h_covC : (∃ w ∈ p_D48, w.1 = 21 ∧ w.2.1 = 0 ∧ 159 ≤ w.2.2) ∧ (∃ w ∈ p_D48, w.1 = 22 ∧ w.2.1 = 0 ∧ 39 ≤ w.2.2) ∧ (∃ w ∈ p_D48, w.1 = 23 ∧ w.2.1 = 0 ∧ 39 ≤ w.2.2) ∧ (∃ w ∈ p_D48, w.1 = 24 ∧ w.2.1 = 0 ∧ 39 ≤ w.2.2) := by decide +kernel
theorem h_cpx {so to id n : Nat} {M M1 : EM} (c : p_C so to p_D48 M M1) (h : ∃ w ∈ p_D48, w.1 = id ∧ w.2.1 = 0 ∧ n ≤ w.2.2) {j : Nat} (hj : j ≤ n) : M1 (id + to) j = M (id + so) j := by
  obtain ⟨w, w1, w2, w3, w4⟩ := h
  have := c.1 w w1 j (by omega) (by omega)
  rw [w2] at this
  exact this
theorem h_imageC {r1 r2 : Int} {M M1 M2 : EM} (h40 : r_G M 1198 ≤ 40) (hC : h_C M 0 (r_G M)) (k1 : E_C 136 [8] M = some (r1, M1)) (k2 : E_C 255 [192] M1 = some (r2, M2)) : h_C M2 0 (r_G M2) ∧ h_C M2 68 (r_Gi M2) := by
  obtain ⟨N, c1, c2⟩ := p_image M
  obtain ⟨e1, e2⟩ := Prod.mk.inj (Option.some.inj (k1.symm.trans c1))
  subst e2
  obtain ⟨e3, e4⟩ := Prod.mk.inj (Option.some.inj (k2.symm.trans (r_image _)))
  have far : ∀ id j, id < 78 ∨ 145 < id → N id j = M id j := fun id j h => c2.2.1 _ _ (fun w hw e => by have := c2.2.2 w hw; omega)
  have z : ∀ id j, id ≠ 8 → id ≠ 192 → id ≠ 194 → M2 id j = N id j := fun id j a b c => by
    rw [e4, c_up_n (fun e => b e.1), r_cp_n c, c_up_n (fun e => a e.1)]
  have zi : ∀ j, j < 1330 → M2 194 j = M 193 j := fun j hj => by
    rw [e4, c_up_n (fun e => by omega), r_cp_t hj, c_up_n (fun e => by omega)]
    exact far _ _ (by omega)
  have eG : r_G M2 = r_G M := funext fun i => (z _ _ (by decide) (by decide) (by decide)).trans (far _ _ (by omega))
  have near : ∀ id j, 21 ≤ id → id ≤ 24 → M2 id j = M id j := fun id j a b => (z _ _ (by omega) (by omega) (by omega)).trans (far _ _ (by omega))
  obtain ⟨q1, q2, q3, q4⟩ := h_covC
  refine ⟨?_, h_C_tr hC h40 (fun i i0 i1 => zi i.toNat (by omega)) (fun j hj => (z _ _ (by decide) (by decide) (by decide)).trans (h_cpx c2 q1 (by omega))) (fun j hj => ⟨(z _ _ (by decide) (by decide) (by decide)).trans (h_cpx c2 q2 (by omega)), (z _ _ (by decide) (by decide) (by decide)).trans (h_cpx c2 q3 (by omega)), (z _ _ (by decide) (by decide) (by decide)).trans (h_cpx c2 q4 (by omega))⟩)⟩
  exact h_C_tr hC h40 (fun i _ _ => congrFun eG i) (fun j _ => near 21 j (by decide) (by decide)) (fun j _ => ⟨near 22 j (by decide) (by decide), near 23 j (by decide) (by decide), near 24 j (by decide) (by decide)⟩)
theorem h_restoreC {r1 r2 : Int} {M M1 M2 : EM} (hfl : M 8 2 = M 192 9) (hB : r_G M 1198 ≤ 40) (hI : r_Gi M 1198 ≤ 40) (hC : h_C M 0 (r_G M)) (hCI : h_C M 68 (r_Gi M)) (k1 : E_C 137 [8] M = some (r1, M1)) (k2 : E_C 256 [192] M1 = some (r2, M2)) : h_C M2 0 (r_G M2) ∧ h_C M2 68 (r_Gi M2) := by
  by_cases z : M 8 2 = 0
  · obtain ⟨e1, e2⟩ := Prod.mk.inj (Option.some.inj (k1.symm.trans (p_restore0 z)))
    subst e2
    rw [r_restore, if_pos (hfl ▸ z)] at k2
    obtain ⟨e3, e4⟩ := Prod.mk.inj (Option.some.inj k2)
    rw [← e4]
    exact ⟨hC, hCI⟩
  · obtain ⟨N, c1, c2⟩ := p_restore z
    obtain ⟨e1, e2⟩ := Prod.mk.inj (Option.some.inj (k1.symm.trans c1))
    subst e2
    have far : ∀ id j, id < 10 ∨ 76 < id → M1 id j = M id j := fun id j h => c2.2.1 _ _ (fun w hw e => by have := c2.2.2 w hw; omega)
    have z2 : ¬ M1 192 9 = 0 := by rw [far _ _ (by omega), ← hfl]; exact z
    rw [r_restore, if_neg z2] at k2
    obtain ⟨e3, e4⟩ := Prod.mk.inj (Option.some.inj k2)
    have w1 : ∀ id j, id ≠ 193 → M2 id j = M1 id j := fun id j h => by rw [← e4]; exact r_cp_n h
    have w2 : ∀ j, j < 1330 → M2 193 j = M 194 j := fun j hj => by rw [← e4, r_cp_t hj]; exact far _ _ (by omega)
    have eg : ∀ i : Int, 0 ≤ i → i < 1330 → r_G M2 i = r_Gi M i := fun i i0 i1 => w2 i.toNat (by omega)
    have ei : r_Gi M2 = r_Gi M := funext fun i => (w1 _ _ (by decide)).trans (far _ _ (by omega))
    obtain ⟨q1, q2, q3, q4⟩ := h_covC
    refine ⟨h_C_tr hCI hI eg (fun j hj => (w1 _ _ (by decide)).trans (h_cpx c2 q1 (by omega))) (fun j hj => ⟨(w1 _ _ (by decide)).trans (h_cpx c2 q2 (by omega)), (w1 _ _ (by decide)).trans (h_cpx c2 q3 (by omega)), (w1 _ _ (by decide)).trans (h_cpx c2 q4 (by omega))⟩), ?_⟩
    have near : ∀ id j, 89 ≤ id → id ≤ 92 → M2 id j = M id j := fun id j a b => (w1 _ _ (by omega)).trans (far _ _ (by omega))
    exact h_C_tr hCI hI (fun i _ _ => congrFun ei i) (fun j _ => near 89 j (by decide) (by decide)) (fun j _ => ⟨near 90 j (by decide) (by decide), near 91 j (by decide) (by decide), near 92 j (by decide) (by decide)⟩)
end
section
/-! set: the two answers; what is told of CELLS stays related -/
def h_t1 (M : EM) : Prop := M 1 0 = 100 ∧ M 1 1 = 50 ∧ M 1 2 = 50 ∧ M 1 3 = 40
def h_z (w : Int) : Int := if w = 0 then 100 else if w = 3 then 40 else 50
theorem h_zb (w : Int) : 0 ≤ h_z w ∧ h_z w ≤ 100 := by
  unfold h_z
  by_cases c0 : w = 0
  · rw [if_pos c0]; decide
  · rw [if_neg c0]
    by_cases c3 : w = 3
    · rw [if_pos c3]; decide
    · rw [if_neg c3]; decide
theorem h_at1 {w : Int} {M : EM} (ht : h_t1 M) (hw : 0 ≤ w ∧ w < 4) : E_C 146 [1, w] M = some (h_z w, M) := by
  obtain ⟨t0, t1, t2, t3⟩ := ht
  have s : (e_sh (1 : Int).toNat) = (100, 4) := by decide +kernel
  rw [c_at 1 w M (Or.inr ⟨by decide, by decide, by rw [s]⟩), s, if_pos ⟨by decide, hw.1, hw.2⟩]
  refine congrArg some (congrArg (·, M) ?_)
  have h9 : w = 0 ∨ w = 1 ∨ w = 2 ∨ w = 3 := by omega
  rcases h9 with rfl | rfl | rfl | rfl
  · exact t0
  · exact t1
  · exact t2
  · exact t3
def h_Sq (w v : Int) : Prop := (0 ≤ w ∧ w < 4) ∧ 0 ≤ v ∧ v ≤ h_z w
theorem h_107s {p w v : Int} {M : EM} : E_C 107 [8, p, w, v] M = e_tv E_C (E_V 107) e_t107_0 [8, p, w, v, 0] M := r_ent (u := 107) (as := [8, p, w, v]) (M := M) (decide_eq_true c_this)
theorem h_107a {p w v i : Int} {M : EM} (ht : h_t1 M) (ip : E_C 149 [8, p] M = some (i, M)) (h : i = 0 ∨ ¬ h_Sq w v) : E_C 107 [8, p, w, v] M = some (-1, M) := by
  rw [h_107s]
  unfold e_t107_0
  by_cases c : i = 0
  · simp [zq_a, zq_b, zq_c, zq_d, zq_e, zq_f, zq_g, zq_h, zq_i, zq_j, zq_k, zq_l, zq_m, zq_n, zq_o, zq_p, zq_q, zq_r, zq_s, zq_t, zq_u, zq_v, zq_w, zq_x, zq_y, zq_z, zq_A, zq_B, zq_C, zq_D, zq_E, zq_F, zq_G, zq_H, zq_I, zq_J, zq_K, zq_L, ↓zq_M, ↓zq_N, ↓zq_O, ↓zq_P, ↓zq_Q, ↓zq_R, zq_S, zq_T, zq_U, zq_V, zq_W, zq_X, zq_Y, zq_Z, zq_0, zq_1, zq_2, zq_3, zq_4, zq_5, ↓zq_6, ↓zq_7, ↓zq_8, ↓zq_9, ↓zq_aa, zq_ab, zq_ac, zq_ad, zq_ae, zq_af, zq_ag, ↓zq_ah, ↓zq_ai, ↓zq_aj, zq_ak, ↓zq_al, ↓zq_am, e_b1, e_b2, x_o1, x_o2, ip, c]
  · have h := h.resolve_left c
    rcases x_le 0 w with ⟨c1, c1_n⟩ | ⟨c1, c1_n⟩
    · rcases x_lt w 4 with ⟨c2, c2_n⟩ | ⟨c2, c2_n⟩
      · have t := h_at1 ht ⟨c1, c2⟩
        rcases x_le 0 v with ⟨c3, c3_n⟩ | ⟨c3, c3_n⟩
        · have c4 : h_z w < v := Int.not_le.mp fun e => h ⟨⟨c1, c2⟩, c3, e⟩
          simp [zq_a, zq_b, zq_c, zq_d, zq_e, zq_f, zq_g, zq_h, zq_i, zq_j, zq_k, zq_l, zq_m, zq_n, zq_o, zq_p, zq_q, zq_r, zq_s, zq_t, zq_u, zq_v, zq_w, zq_x, zq_y, zq_z, zq_A, zq_B, zq_C, zq_D, zq_E, zq_F, zq_G, zq_H, zq_I, zq_J, zq_K, zq_L, ↓zq_M, ↓zq_N, ↓zq_O, ↓zq_P, ↓zq_Q, ↓zq_R, zq_S, zq_T, zq_U, zq_V, zq_W, zq_X, zq_Y, zq_Z, zq_0, zq_1, zq_2, zq_3, zq_4, zq_5, ↓zq_6, ↓zq_7, ↓zq_8, ↓zq_9, ↓zq_aa, zq_ab, zq_ac, zq_ad, zq_ae, zq_af, zq_ag, ↓zq_ah, ↓zq_ai, ↓zq_aj, zq_ak, ↓zq_al, ↓zq_am, e_b1, e_b2, x_o1, x_o2, ip, c, c1, c1_n, c2, c2_n, c3, c3_n, t, c4]
        · simp [zq_a, zq_b, zq_c, zq_d, zq_e, zq_f, zq_g, zq_h, zq_i, zq_j, zq_k, zq_l, zq_m, zq_n, zq_o, zq_p, zq_q, zq_r, zq_s, zq_t, zq_u, zq_v, zq_w, zq_x, zq_y, zq_z, zq_A, zq_B, zq_C, zq_D, zq_E, zq_F, zq_G, zq_H, zq_I, zq_J, zq_K, zq_L, ↓zq_M, ↓zq_N, ↓zq_O, ↓zq_P, ↓zq_Q, ↓zq_R, zq_S, zq_T, zq_U, zq_V, zq_W, zq_X, zq_Y, zq_Z, zq_0, zq_1, zq_2, zq_3, zq_4, zq_5, ↓zq_6, ↓zq_7, ↓zq_8, ↓zq_9, ↓zq_aa, zq_ab, zq_ac, zq_ad, zq_ae, zq_af, zq_ag, ↓zq_ah, ↓zq_ai, ↓zq_aj, zq_ak, ↓zq_al, ↓zq_am, e_b1, e_b2, x_o1, x_o2, ip, c, c1, c1_n, c2, c2_n, c3, c3_n]
      · simp [zq_a, zq_b, zq_c, zq_d, zq_e, zq_f, zq_g, zq_h, zq_i, zq_j, zq_k, zq_l, zq_m, zq_n, zq_o, zq_p, zq_q, zq_r, zq_s, zq_t, zq_u, zq_v, zq_w, zq_x, zq_y, zq_z, zq_A, zq_B, zq_C, zq_D, zq_E, zq_F, zq_G, zq_H, zq_I, zq_J, zq_K, zq_L, ↓zq_M, ↓zq_N, ↓zq_O, ↓zq_P, ↓zq_Q, ↓zq_R, zq_S, zq_T, zq_U, zq_V, zq_W, zq_X, zq_Y, zq_Z, zq_0, zq_1, zq_2, zq_3, zq_4, zq_5, ↓zq_6, ↓zq_7, ↓zq_8, ↓zq_9, ↓zq_aa, zq_ab, zq_ac, zq_ad, zq_ae, zq_af, zq_ag, ↓zq_ah, ↓zq_ai, ↓zq_aj, zq_ak, ↓zq_al, ↓zq_am, e_b1, e_b2, x_o1, x_o2, ip, c, c1, c1_n, c2, c2_n]
    · simp [zq_a, zq_b, zq_c, zq_d, zq_e, zq_f, zq_g, zq_h, zq_i, zq_j, zq_k, zq_l, zq_m, zq_n, zq_o, zq_p, zq_q, zq_r, zq_s, zq_t, zq_u, zq_v, zq_w, zq_x, zq_y, zq_z, zq_A, zq_B, zq_C, zq_D, zq_E, zq_F, zq_G, zq_H, zq_I, zq_J, zq_K, zq_L, ↓zq_M, ↓zq_N, ↓zq_O, ↓zq_P, ↓zq_Q, ↓zq_R, zq_S, zq_T, zq_U, zq_V, zq_W, zq_X, zq_Y, zq_Z, zq_0, zq_1, zq_2, zq_3, zq_4, zq_5, ↓zq_6, ↓zq_7, ↓zq_8, ↓zq_9, ↓zq_aa, zq_ab, zq_ac, zq_ad, zq_ae, zq_af, zq_ag, ↓zq_ah, ↓zq_ai, ↓zq_aj, zq_ak, ↓zq_al, ↓zq_am, e_b1, e_b2, x_o1, x_o2, ip, c, c1, c1_n]
theorem h_107b {p w v : Int} {M : EM} (ht : h_t1 M) (ip : E_C 149 [8, p] M = some (1, M)) (j : E_C 150 [8, p, 0] M = some (0, M)) (h : h_Sq w v) : E_C 107 [8, p, w, v] M = some (-3, M) := by
  obtain ⟨⟨c1, c2⟩, c3, c4⟩ := h
  have t := h_at1 ht ⟨c1, c2⟩
  have c1' : ¬ w < 0 := by omega
  have c2' : ¬ 4 ≤ w := by omega
  have c3' : ¬ v < 0 := by omega
  have c4' : ¬ h_z w < v := by omega
  rw [h_107s]
  unfold e_t107_0
  simp [zq_a, zq_b, zq_c, zq_d, zq_e, zq_f, zq_g, zq_h, zq_i, zq_j, zq_k, zq_l, zq_m, zq_n, zq_o, zq_p, zq_q, zq_r, zq_s, zq_t, zq_u, zq_v, zq_w, zq_x, zq_y, zq_z, zq_A, zq_B, zq_C, zq_D, zq_E, zq_F, zq_G, zq_H, zq_I, zq_J, zq_K, zq_L, ↓zq_M, ↓zq_N, ↓zq_O, ↓zq_P, ↓zq_Q, ↓zq_R, zq_S, zq_T, zq_U, zq_V, zq_W, zq_X, zq_Y, zq_Z, zq_0, zq_1, zq_2, zq_3, zq_4, zq_5, ↓zq_6, ↓zq_7, ↓zq_8, ↓zq_9, ↓zq_aa, zq_ab, zq_ac, zq_ad, zq_ae, zq_af, zq_ag, ↓zq_ah, ↓zq_ai, ↓zq_aj, zq_ak, ↓zq_al, ↓zq_am, e_b1, e_b2, x_o1, x_o2, ip, j, t, c1, c2, c3, c4, c1', c2', c3', c4']
theorem h_107c {p w v : Int} {M : EM} (ht : h_t1 M) (hp : 0 ≤ p ∧ p < 40) (ip : E_C 149 [8, p] M = some (1, M)) (j : E_C 150 [8, p, 0] M = some (1, M)) (h : h_Sq w v) : E_C 107 [8, p, w, v] M = some (M 21 (4 * p + w).toNat, e_up M 21 (4 * p + w).toNat v) := by
  obtain ⟨⟨c1, c2⟩, c3, c4⟩ := h
  have t := h_at1 ht ⟨c1, c2⟩
  have t2 : E_C 146 [21, 4 * p + w] M = some (M 21 (4 * p + w).toNat, M) := p_at (a := 21) (n := 160) (by decide +kernel) ⟨by omega, by omega⟩ M
  have l : ∀ v M, E_C 147 [21, 4 * p + w, v] M = some (0, e_up M 21 (4 * p + w).toNat v) := fun v M => p_layd (a := 21) (n := 160) (by decide +kernel) ⟨by omega, by omega⟩ M
  have w1 : e_w (p * 4) = 4 * p := by rw [Int.mul_comm]; exact a_w_id (by omega) (by omega)
  have w2 : e_w (4 * p + w) = 4 * p + w := a_w_id (by omega) (by omega)
  have c1' : ¬ w < 0 := by omega
  have c2' : ¬ 4 ≤ w := by omega
  have c3' : ¬ v < 0 := by omega
  have c4' : ¬ h_z w < v := by omega
  rw [h_107s]
  unfold e_t107_0
  simp [zq_a, zq_b, zq_c, zq_d, zq_e, zq_f, zq_g, zq_h, zq_i, zq_j, zq_k, zq_l, zq_m, zq_n, zq_o, zq_p, zq_q, zq_r, zq_s, zq_t, zq_u, zq_v, zq_w, zq_x, zq_y, zq_z, zq_A, zq_B, zq_C, zq_D, zq_E, zq_F, zq_G, zq_H, zq_I, zq_J, zq_K, zq_L, ↓zq_M, ↓zq_N, ↓zq_O, ↓zq_P, ↓zq_Q, ↓zq_R, zq_S, zq_T, zq_U, zq_V, zq_W, zq_X, zq_Y, zq_Z, zq_0, zq_1, zq_2, zq_3, zq_4, zq_5, ↓zq_6, ↓zq_7, ↓zq_8, ↓zq_9, ↓zq_aa, zq_ab, zq_ac, zq_ad, zq_ae, zq_af, zq_ag, ↓zq_ah, ↓zq_ai, ↓zq_aj, zq_ak, ↓zq_al, ↓zq_am, e_b1, e_b2, x_o1, x_o2, p_704, w_H1, w_C2, ip, j, t, c1, c2, c3, c4, c1', c2', c3', c4', w1, w2, t2, l]
end
section
/-! set: the reference; the pair -/
theorem h_196a {p w v i : Int} {M : EM} (ip : E_C 169 [192, p] M = some (i, M)) (h : i = 0 ∨ ¬ h_Sq w v) : E_C 196 [192, p, w, v] M = some (-1, M) := by
  rw [r_ent (show e_rok 196 [192, p, w, v] = true from decide_eq_true r_ref)]
  show e_tv E_C (E_V 196) e_t196_0 [192, p, w, v, 0] M = _
  unfold e_t196_0
  by_cases c : i = 0
  · simp [zq_a, zq_b, zq_c, zq_d, zq_e, zq_f, zq_g, zq_h, zq_i, zq_j, zq_k, zq_l, zq_m, zq_n, zq_o, zq_p, zq_q, zq_r, zq_s, zq_t, zq_u, zq_v, zq_w, zq_x, zq_y, zq_z, zq_A, zq_B, zq_C, zq_D, zq_E, zq_F, zq_G, zq_H, zq_I, zq_J, zq_K, zq_L, ↓zq_M, ↓zq_N, ↓zq_O, ↓zq_P, ↓zq_Q, ↓zq_R, zq_S, zq_T, zq_U, zq_V, zq_W, zq_X, zq_Y, zq_Z, zq_0, zq_1, zq_2, zq_3, zq_4, zq_5, ↓zq_6, ↓zq_7, ↓zq_8, ↓zq_9, ↓zq_aa, zq_ab, zq_ac, zq_ad, zq_ae, zq_af, zq_ag, ↓zq_ah, ↓zq_ai, ↓zq_aj, zq_ak, ↓zq_al, ↓zq_am, e_b1, e_b2, x_o1, x_o2, ip, c]
  · have h := h.resolve_left c
    by_cases q1 : 0 ≤ w ∧ w ≤ 3
    · have i1 := r_in1 (M := M) q1
      have q2 : ¬ (0 ≤ v ∧ v ≤ h_z w) := fun e => h ⟨⟨q1.1, by omega⟩, e⟩
      unfold h_z at q2
      have i2 := r_in0 (M := M) q2
      by_cases c0 : w = 0
      · subst c0
        rw [if_pos rfl] at i2
        simp [zq_a, zq_b, zq_c, zq_d, zq_e, zq_f, zq_g, zq_h, zq_i, zq_j, zq_k, zq_l, zq_m, zq_n, zq_o, zq_p, zq_q, zq_r, zq_s, zq_t, zq_u, zq_v, zq_w, zq_x, zq_y, zq_z, zq_A, zq_B, zq_C, zq_D, zq_E, zq_F, zq_G, zq_H, zq_I, zq_J, zq_K, zq_L, ↓zq_M, ↓zq_N, ↓zq_O, ↓zq_P, ↓zq_Q, ↓zq_R, zq_S, zq_T, zq_U, zq_V, zq_W, zq_X, zq_Y, zq_Z, zq_0, zq_1, zq_2, zq_3, zq_4, zq_5, ↓zq_6, ↓zq_7, ↓zq_8, ↓zq_9, ↓zq_aa, zq_ab, zq_ac, zq_ad, zq_ae, zq_af, zq_ag, ↓zq_ah, ↓zq_ai, ↓zq_aj, zq_ak, ↓zq_al, ↓zq_am, e_b1, e_b2, x_o1, x_o2, r_O0, ip, c, i1, i2]
      · by_cases c3 : w = 3
        · subst c3
          rw [if_neg (by decide), if_pos rfl] at i2
          simp [zq_a, zq_b, zq_c, zq_d, zq_e, zq_f, zq_g, zq_h, zq_i, zq_j, zq_k, zq_l, zq_m, zq_n, zq_o, zq_p, zq_q, zq_r, zq_s, zq_t, zq_u, zq_v, zq_w, zq_x, zq_y, zq_z, zq_A, zq_B, zq_C, zq_D, zq_E, zq_F, zq_G, zq_H, zq_I, zq_J, zq_K, zq_L, ↓zq_M, ↓zq_N, ↓zq_O, ↓zq_P, ↓zq_Q, ↓zq_R, zq_S, zq_T, zq_U, zq_V, zq_W, zq_X, zq_Y, zq_Z, zq_0, zq_1, zq_2, zq_3, zq_4, zq_5, ↓zq_6, ↓zq_7, ↓zq_8, ↓zq_9, ↓zq_aa, zq_ab, zq_ac, zq_ad, zq_ae, zq_af, zq_ag, ↓zq_ah, ↓zq_ai, ↓zq_aj, zq_ak, ↓zq_al, ↓zq_am, e_b1, e_b2, x_o1, x_o2, r_O0, ip, c, i1, i2]
        · rw [if_neg c0, if_neg c3] at i2
          simp [zq_a, zq_b, zq_c, zq_d, zq_e, zq_f, zq_g, zq_h, zq_i, zq_j, zq_k, zq_l, zq_m, zq_n, zq_o, zq_p, zq_q, zq_r, zq_s, zq_t, zq_u, zq_v, zq_w, zq_x, zq_y, zq_z, zq_A, zq_B, zq_C, zq_D, zq_E, zq_F, zq_G, zq_H, zq_I, zq_J, zq_K, zq_L, ↓zq_M, ↓zq_N, ↓zq_O, ↓zq_P, ↓zq_Q, ↓zq_R, zq_S, zq_T, zq_U, zq_V, zq_W, zq_X, zq_Y, zq_Z, zq_0, zq_1, zq_2, zq_3, zq_4, zq_5, ↓zq_6, ↓zq_7, ↓zq_8, ↓zq_9, ↓zq_aa, zq_ab, zq_ac, zq_ad, zq_ae, zq_af, zq_ag, ↓zq_ah, ↓zq_ai, ↓zq_aj, zq_ak, ↓zq_al, ↓zq_am, e_b1, e_b2, x_o1, x_o2, r_O0, ip, c, i1, i2, c0, c3]
    · have i1 := r_in0 (M := M) q1
      simp [zq_a, zq_b, zq_c, zq_d, zq_e, zq_f, zq_g, zq_h, zq_i, zq_j, zq_k, zq_l, zq_m, zq_n, zq_o, zq_p, zq_q, zq_r, zq_s, zq_t, zq_u, zq_v, zq_w, zq_x, zq_y, zq_z, zq_A, zq_B, zq_C, zq_D, zq_E, zq_F, zq_G, zq_H, zq_I, zq_J, zq_K, zq_L, ↓zq_M, ↓zq_N, ↓zq_O, ↓zq_P, ↓zq_Q, ↓zq_R, zq_S, zq_T, zq_U, zq_V, zq_W, zq_X, zq_Y, zq_Z, zq_0, zq_1, zq_2, zq_3, zq_4, zq_5, ↓zq_6, ↓zq_7, ↓zq_8, ↓zq_9, ↓zq_aa, zq_ab, zq_ac, zq_ad, zq_ae, zq_af, zq_ag, ↓zq_ah, ↓zq_ai, ↓zq_aj, zq_ak, ↓zq_al, ↓zq_am, e_b1, e_b2, x_o1, x_o2, ip, c, i1]
theorem h_196b {p w v k : Int} {M : EM} (ip : E_C 169 [192, p] M = some (1, M)) (kk : E_C 170 [192, p] M = some (k, M)) (hk : k ≠ 0) (h : h_Sq w v) : E_C 196 [192, p, w, v] M = some (-3, M) := by
  obtain ⟨⟨c1, c2⟩, q2⟩ := h
  have i1 := r_in1 (M := M) (show 0 ≤ w ∧ w ≤ 3 by omega)
  unfold h_z at q2
  have i2 := r_in1 (M := M) q2
  rw [r_ent (show e_rok 196 [192, p, w, v] = true from decide_eq_true r_ref)]
  show e_tv E_C (E_V 196) e_t196_0 [192, p, w, v, 0] M = _
  unfold e_t196_0
  by_cases c0 : w = 0
  · subst c0
    rw [if_pos rfl] at i2
    simp [zq_a, zq_b, zq_c, zq_d, zq_e, zq_f, zq_g, zq_h, zq_i, zq_j, zq_k, zq_l, zq_m, zq_n, zq_o, zq_p, zq_q, zq_r, zq_s, zq_t, zq_u, zq_v, zq_w, zq_x, zq_y, zq_z, zq_A, zq_B, zq_C, zq_D, zq_E, zq_F, zq_G, zq_H, zq_I, zq_J, zq_K, zq_L, ↓zq_M, ↓zq_N, ↓zq_O, ↓zq_P, ↓zq_Q, ↓zq_R, zq_S, zq_T, zq_U, zq_V, zq_W, zq_X, zq_Y, zq_Z, zq_0, zq_1, zq_2, zq_3, zq_4, zq_5, ↓zq_6, ↓zq_7, ↓zq_8, ↓zq_9, ↓zq_aa, zq_ab, zq_ac, zq_ad, zq_ae, zq_af, zq_ag, ↓zq_ah, ↓zq_ai, ↓zq_aj, zq_ak, ↓zq_al, ↓zq_am, e_b1, e_b2, x_o1, x_o2, r_O0, ip, kk, hk, i1, i2]
  · by_cases c3 : w = 3
    · subst c3
      rw [if_neg (by decide), if_pos rfl] at i2
      simp [zq_a, zq_b, zq_c, zq_d, zq_e, zq_f, zq_g, zq_h, zq_i, zq_j, zq_k, zq_l, zq_m, zq_n, zq_o, zq_p, zq_q, zq_r, zq_s, zq_t, zq_u, zq_v, zq_w, zq_x, zq_y, zq_z, zq_A, zq_B, zq_C, zq_D, zq_E, zq_F, zq_G, zq_H, zq_I, zq_J, zq_K, zq_L, ↓zq_M, ↓zq_N, ↓zq_O, ↓zq_P, ↓zq_Q, ↓zq_R, zq_S, zq_T, zq_U, zq_V, zq_W, zq_X, zq_Y, zq_Z, zq_0, zq_1, zq_2, zq_3, zq_4, zq_5, ↓zq_6, ↓zq_7, ↓zq_8, ↓zq_9, ↓zq_aa, zq_ab, zq_ac, zq_ad, zq_ae, zq_af, zq_ag, ↓zq_ah, ↓zq_ai, ↓zq_aj, zq_ak, ↓zq_al, ↓zq_am, e_b1, e_b2, x_o1, x_o2, r_O0, ip, kk, hk, i1, i2]
    · rw [if_neg c0, if_neg c3] at i2
      simp [zq_a, zq_b, zq_c, zq_d, zq_e, zq_f, zq_g, zq_h, zq_i, zq_j, zq_k, zq_l, zq_m, zq_n, zq_o, zq_p, zq_q, zq_r, zq_s, zq_t, zq_u, zq_v, zq_w, zq_x, zq_y, zq_z, zq_A, zq_B, zq_C, zq_D, zq_E, zq_F, zq_G, zq_H, zq_I, zq_J, zq_K, zq_L, ↓zq_M, ↓zq_N, ↓zq_O, ↓zq_P, ↓zq_Q, ↓zq_R, zq_S, zq_T, zq_U, zq_V, zq_W, zq_X, zq_Y, zq_Z, zq_0, zq_1, zq_2, zq_3, zq_4, zq_5, ↓zq_6, ↓zq_7, ↓zq_8, ↓zq_9, ↓zq_aa, zq_ab, zq_ac, zq_ad, zq_ae, zq_af, zq_ag, ↓zq_ah, ↓zq_ai, ↓zq_aj, zq_ak, ↓zq_al, ↓zq_am, e_b1, e_b2, x_o1, x_o2, r_O0, ip, kk, hk, i1, i2, c0, c3]
theorem h_196c {p w v : Int} {M : EM} (hp : 0 ≤ p ∧ p < 40) (ip : E_C 169 [192, p] M = some (1, M)) (kk : E_C 170 [192, p] M = some (0, M)) (h : h_Sq w v) : E_C 196 [192, p, w, v] M = some (r_G M (28 * p + 15 + w), e_up M 193 (28 * p + 15 + w).toNat v) := by
  obtain ⟨⟨c1, c2⟩, q2⟩ := h
  have i1 := r_in1 (M := M) (show 0 ≤ w ∧ w ≤ 3 by omega)
  unfold h_z at q2
  have i2 := r_in1 (M := M) q2
  have l1 : e_op 60 [193, 28 * p + 15 + w] M = some (r_G M (28 * p + 15 + w)) := r_rd (by omega) (by omega)
  have st := r_stw (i := 28 * p + 15 + w) (v := v) (M := M) (by omega) (by omega)
  have w1 : e_w (28 * p) = 28 * p := a_w_id (by omega) (by omega)
  have w2 : e_w (28 * p + 15) = 28 * p + 15 := a_w_id (by omega) (by omega)
  have w3 : e_w (28 * p + 15 + w) = 28 * p + 15 + w := a_w_id (by omega) (by omega)
  rw [r_ent (show e_rok 196 [192, p, w, v] = true from decide_eq_true r_ref)]
  show e_tv E_C (E_V 196) e_t196_0 [192, p, w, v, 0] M = _
  unfold e_t196_0
  by_cases c0 : w = 0
  · subst c0
    rw [if_pos rfl] at i2
    simp only [Int.add_zero] at w3 l1 st ⊢
    simp [zq_a, zq_b, zq_c, zq_d, zq_e, zq_f, zq_g, zq_h, zq_i, zq_j, zq_k, zq_l, zq_m, zq_n, zq_o, zq_p, zq_q, zq_r, zq_s, zq_t, zq_u, zq_v, zq_w, zq_x, zq_y, zq_z, zq_A, zq_B, zq_C, zq_D, zq_E, zq_F, zq_G, zq_H, zq_I, zq_J, zq_K, zq_L, ↓zq_M, ↓zq_N, ↓zq_O, ↓zq_P, ↓zq_Q, ↓zq_R, zq_S, zq_T, zq_U, zq_V, zq_W, zq_X, zq_Y, zq_Z, zq_0, zq_1, zq_2, zq_3, zq_4, zq_5, ↓zq_6, ↓zq_7, ↓zq_8, ↓zq_9, ↓zq_aa, zq_ab, zq_ac, zq_ad, zq_ae, zq_af, zq_ag, ↓zq_ah, ↓zq_ai, ↓zq_aj, zq_ak, ↓zq_al, ↓zq_am, e_b1, e_b2, x_o1, x_o2, r_O0, ip, kk, i1, i2, w1, w2, w3, l1, st]
  · by_cases c3 : w = 3
    · subst c3
      rw [if_neg (by decide), if_pos rfl] at i2
      simp [zq_a, zq_b, zq_c, zq_d, zq_e, zq_f, zq_g, zq_h, zq_i, zq_j, zq_k, zq_l, zq_m, zq_n, zq_o, zq_p, zq_q, zq_r, zq_s, zq_t, zq_u, zq_v, zq_w, zq_x, zq_y, zq_z, zq_A, zq_B, zq_C, zq_D, zq_E, zq_F, zq_G, zq_H, zq_I, zq_J, zq_K, zq_L, ↓zq_M, ↓zq_N, ↓zq_O, ↓zq_P, ↓zq_Q, ↓zq_R, zq_S, zq_T, zq_U, zq_V, zq_W, zq_X, zq_Y, zq_Z, zq_0, zq_1, zq_2, zq_3, zq_4, zq_5, ↓zq_6, ↓zq_7, ↓zq_8, ↓zq_9, ↓zq_aa, zq_ab, zq_ac, zq_ad, zq_ae, zq_af, zq_ag, ↓zq_ah, ↓zq_ai, ↓zq_aj, zq_ak, ↓zq_al, ↓zq_am, e_b1, e_b2, x_o1, x_o2, r_O0, ip, kk, i1, i2, w1, w2, w3, l1, st]
    · rw [if_neg c0, if_neg c3] at i2
      simp [zq_a, zq_b, zq_c, zq_d, zq_e, zq_f, zq_g, zq_h, zq_i, zq_j, zq_k, zq_l, zq_m, zq_n, zq_o, zq_p, zq_q, zq_r, zq_s, zq_t, zq_u, zq_v, zq_w, zq_x, zq_y, zq_z, zq_A, zq_B, zq_C, zq_D, zq_E, zq_F, zq_G, zq_H, zq_I, zq_J, zq_K, zq_L, ↓zq_M, ↓zq_N, ↓zq_O, ↓zq_P, ↓zq_Q, ↓zq_R, zq_S, zq_T, zq_U, zq_V, zq_W, zq_X, zq_Y, zq_Z, zq_0, zq_1, zq_2, zq_3, zq_4, zq_5, ↓zq_6, ↓zq_7, ↓zq_8, ↓zq_9, ↓zq_aa, zq_ab, zq_ac, zq_ad, zq_ae, zq_af, zq_ag, ↓zq_ah, ↓zq_ai, ↓zq_aj, zq_ak, ↓zq_al, ↓zq_am, e_b1, e_b2, x_o1, x_o2, r_O0, ip, kk, i1, i2, w1, w2, w3, l1, st, c0, c3]
theorem h_sets {p w v r1 r2 : Int} {M M1 M2 : EM} (ht : h_t1 M) (J1 : r_J M1) (hB : h_B M 0 (r_G M)) (hC : h_C M 0 (r_G M)) (hfr : ∀ i, M1 193 i = M 193 i) (k1 : E_C 107 [8, p, w, v] M = some (r1, M1)) (k2 : E_C 196 [192, p, w, v] M1 = some (r2, M2)) : r1 = r2 ∧ h_C M2 0 (r_G M2) := by
  have eG1 : r_G M1 = r_G M := funext fun i => hfr _
  have hW1 := (r_J_E J1).2.1
  have h10 := hB.1
  by_cases c : 0 ≤ p ∧ p < M 10 0
  · have cg : 0 ≤ p ∧ p < r_G M1 1198 := by rw [eG1, ← h10]; exact c
    have i : E_C 149 [8, p] M = some (1, M) := h_149.trans (congrArg some (congrArg (·, M) (if_pos c)))
    have ip := r_ip1 hW1 cg
    by_cases hL : h_Sq w v
    · have h40 := r_40 hW1 cg
      obtain ⟨q, hq⟩ : ∃ q : Nat, p = q := ⟨p.toNat, by omega⟩
      subst hq
      have hqn : (q : Int) < r_G M 1198 := by rw [← h10]; exact c.2
      have b := hB.2.2 q hqn
      have cq := hC q hqn
      have kk : E_C 170 [192, (q : Int)] M1 = some (r_G M1 (28 * (q : Int)), M1) := r_kind h40
      rw [eG1] at kk
      have kq : M 11 (q : Int).toNat = r_G M (28 * (q : Int)) := b.1
      by_cases k0 : r_G M (28 * (q : Int)) = 0
      · have j : E_C 150 [8, (q : Int), 0] M = some (1, M) := (h_150 h40).trans (congrArg some (congrArg (·, M) (if_pos (kq.trans k0))))
        obtain ⟨e1, e2⟩ := Prod.mk.inj (Option.some.inj (k1.symm.trans (h_107c ht h40 i j hL)))
        obtain ⟨d1, d2, d4⟩ := cq k0
        rw [k0] at kk
        obtain ⟨f1, f2⟩ := Prod.mk.inj (Option.some.inj (k2.symm.trans (h_196c h40 ip kk hL)))
        have hz := h_zb w
        obtain ⟨⟨s1, s2⟩, s3, s4⟩ := hL
        obtain ⟨a, ha⟩ : ∃ a : Nat, w = a := ⟨w.toNat, by omega⟩
        subst ha
        have ha4 : a < 4 := by omega
        have tn : (4 * (q : Int) + (a : Int)).toNat = 4 * q + a := by omega
        rw [tn] at e1 e2
        have g2 : ∀ x, 0 ≤ x → x ≠ 28 * (q : Int) + 15 + (a : Int) → r_G M2 x = r_G M x := fun x x0 hx => by
          rw [f2]
          show e_up M1 193 _ v 193 x.toNat = _
          rw [c_up_n (by omega)]
          exact hfr _
        have m2 : ∀ id k, id ≠ 193 → ¬ (id = 21 ∧ k = 4 * q + a) → M2 id k = M id k := fun id k h1 h2 => by
          rw [f2, c_up_n (by omega), e2]
          exact c_up_n h2
        refine ⟨?_, ?_⟩
        · rw [e1, f1]
          exact (d1 a ha4).1.trans (congrFun eG1 _).symm
        · intro z hz'
          rw [g2 1198 (by decide) (by omega)] at hz'
          by_cases ct : z = q
          · subst ct
            intro _
            have gt : r_G M2 (28 * (z : Int) + 15 + (a : Int)) = v := by rw [f2]; exact c_up_s
            have mt : M2 21 (4 * z + a) = v := by rw [f2, c_up_n (by omega), e2]; exact c_up_s
            refine ⟨fun b hb => ?_, ?_, ?_⟩
            · by_cases cb : b = a
              · subst cb
                rw [gt, mt]
                exact ⟨rfl, s3, by omega⟩
              · rw [g2 _ (by omega) (by omega), m2 _ _ (by decide) (by omega)]
                exact d1 b hb
            · rw [g2 _ (by omega) (by omega), m2 (22 + 0) _ (by decide) (by omega)]
              exact d2
            · rw [g2 (28 * (z : Int) + 20) (by omega) (by omega), g2 (28 * (z : Int) + 21) (by omega) (by omega), g2 (28 * (z : Int) + 22) (by omega) (by omega), g2 (28 * (z : Int) + 23) (by omega) (by omega), g2 (28 * (z : Int) + 24) (by omega) (by omega), m2 (23 + 0) _ (by decide) (by omega), m2 (24 + 0) _ (by decide) (by omega)]
              exact d4
          · exact h_Cq_cg (hC z hz') (g2 _ (by omega) (by omega)) (fun d d0 d1 => g2 _ (by omega) (by omega)) (fun b _ => m2 _ _ (by decide) (by omega)) (m2 _ _ (by decide) (by omega)) (m2 _ _ (by decide) (by omega)) (m2 _ _ (by decide) (by omega))
      · have j : E_C 150 [8, (q : Int), 0] M = some (0, M) := (h_150 h40).trans (congrArg some (congrArg (·, M) (if_neg (fun e => k0 (kq.symm.trans e)))))
        obtain ⟨e1, e2⟩ := Prod.mk.inj (Option.some.inj (k1.symm.trans (h_107b ht i j hL)))
        obtain ⟨f1, f2⟩ := Prod.mk.inj (Option.some.inj (k2.symm.trans (h_196b ip kk k0 hL)))
        refine ⟨e1.trans f1.symm, ?_⟩
        rw [f2, e2]
        exact hC
    · obtain ⟨e1, e2⟩ := Prod.mk.inj (Option.some.inj (k1.symm.trans (h_107a ht i (Or.inr hL))))
      obtain ⟨f1, f2⟩ := Prod.mk.inj (Option.some.inj (k2.symm.trans (h_196a ip (Or.inr hL))))
      refine ⟨e1.trans f1.symm, ?_⟩
      rw [f2, e2]
      exact hC
  · have i : E_C 149 [8, p] M = some (0, M) := h_149.trans (congrArg some (congrArg (·, M) (if_neg c)))
    have cg : ¬ (0 ≤ p ∧ p < r_G M1 1198) := by rw [eG1, ← h10]; exact c
    obtain ⟨e1, e2⟩ := Prod.mk.inj (Option.some.inj (k1.symm.trans (h_107a ht i (Or.inl rfl))))
    obtain ⟨f1, f2⟩ := Prod.mk.inj (Option.some.inj (k2.symm.trans (h_196a (r_ip0 hW1 cg) (Or.inl rfl))))
    refine ⟨e1.trans f1.symm, ?_⟩
    rw [f2, e2]
    exact hC
end
section
/-! sky: what both leave -/
def h_Sk (M : EM) (d i : Nat) (M' : EM) : Prop := (∀ id k, ¬ (id = 193 ∧ 1202 + i ≤ k ∧ k < 1322) → M' id k = M id k) ∧ ∀ j, i ≤ j → j < 120 → M' 193 (1202 + j) = M 198 (120 * d + j)
theorem h_225L {d : Nat} {z : Int} (hd : d < 8) : ∀ (m i : Nat) (M : EM), i + m = 120 → ∃ M', E_V 225 43 [192, (d : Int), z, (i : Int)] M = some (M 197 d, M') ∧ h_Sk M d i M' := by
  intro m
  induction m with
  | zero =>
    intro i M hm
    have e : i = 120 := by omega
    subst e
    have b : 0 ≤ (d : Int) ∧ (d : Int) ≤ 7 := by omega
    have l := (r_isD (d : Int) M b).2.2.1
    rw [Int.toNat_natCast] at l
    exact ⟨M, h_225e l, fun _ _ _ => rfl, fun j h1 h2 => absurd h1 (by omega)⟩
  | succ m ih =>
    intro i M hm
    have q : (i : Int) < 120 := by omega
    have b1 : 0 ≤ 1202 + (i : Int) ∧ 1202 + (i : Int) < 1330 := by omega
    have b2 : 0 ≤ 120 * (d : Int) + (i : Int) ∧ 120 * (d : Int) + (i : Int) < 960 := by omega
    have st := fun v => r_stw (i := 1202 + (i : Int)) (v := v) (M := M) b1.1 b1.2
    have l := r_rdE (M := M) b2.1 b2.2
    have w : e_w (1202 + (i : Int)) = 1202 + (i : Int) ∧ e_w (120 * (d : Int)) = 120 * (d : Int) ∧ e_w (120 * (d : Int) + (i : Int)) = 120 * (d : Int) + (i : Int) ∧ e_w ((i : Int) + 1) = ((i + 1 : Nat) : Int) := by
      clear st l ih
      refine ⟨?_, ?_, ?_, (a_w_id (by omega) (by omega)).trans (by omega)⟩ <;> exact a_w_id (by omega) (by omega)
    obtain ⟨M', k, s1, s2⟩ := ih (i + 1) (e_up M 193 (1202 + (i : Int)).toNat (M 198 (120 * (d : Int) + (i : Int)).toNat)) (by omega)
    rw [c_up_n (fun h => absurd h.1 (by decide))] at k
    have w0 := w
    clear w
    refine ⟨M', (h_225s q w0.1 w0.2.1 w0.2.2.1 w0.2.2.2 l st).trans k, ?_, ?_⟩
    · clear w0 st l ih k s2
      intro id j h
      rw [s1 id j (by omega)]
      exact c_up_n (by omega)
    · clear w0 st l ih k
      intro j h1 h2
      by_cases c : j = i
      · subst c
        rw [s1 193 _ (by omega)]
        have t1 : (1202 + (j : Int)).toNat = 1202 + j := by omega
        have t2 : (120 * (d : Int) + (j : Int)).toNat = 120 * d + j := by omega
        rw [t1, t2, c_up_s]
      · rw [s2 j (by omega) h2]
        exact c_up_n (by omega)
end
section
/-! sky: what the class leaves -/
def h_lv (s : Int) : Int := if s = 0 then -128 else if s = 1 then -32768 else -2147483648
theorem h_89 {h : Int} (hh : h ∈ a_SH) (M : EM) : E_C 89 [h] M = some (h_lv (M h.toNat 4), M) := by
  obtain ⟨s1, -⟩ := w_sh hh
  have g : e_gf 516 [h] M = some (M h.toNat 4) := c_gf s1 (by decide +kernel)
  rw [r_ent (show e_rok 89 [h] = true from decide_eq_true s1)]
  show e_tv E_C (E_V 89) e_t89_0 [h] M = _
  unfold e_t89_0
  generalize M h.toNat 4 = s at g
  unfold h_lv
  by_cases c0 : s = 0
  · rw [if_pos c0]
    simp [zq_a, zq_b, zq_c, zq_d, zq_e, zq_f, zq_g, zq_h, zq_i, zq_j, zq_k, zq_l, zq_m, zq_n, zq_o, zq_p, zq_q, zq_r, zq_s, zq_t, zq_u, zq_v, zq_w, zq_x, zq_y, zq_z, zq_A, zq_B, zq_C, zq_D, zq_E, zq_F, zq_G, zq_H, zq_I, zq_J, zq_K, zq_L, ↓zq_M, ↓zq_N, ↓zq_O, ↓zq_P, ↓zq_Q, ↓zq_R, zq_S, zq_T, zq_U, zq_V, zq_W, zq_X, zq_Y, zq_Z, zq_0, zq_1, zq_2, zq_3, zq_4, zq_5, ↓zq_6, ↓zq_7, ↓zq_8, ↓zq_9, ↓zq_aa, zq_ab, zq_ac, zq_ad, zq_ae, zq_af, zq_ag, ↓zq_ah, ↓zq_ai, ↓zq_aj, zq_ak, ↓zq_al, ↓zq_am, e_b1, e_b2, x_o1, x_o2, g, c0]
  · rw [if_neg c0]
    by_cases c1 : s = 1
    · rw [if_pos c1]
      simp [zq_a, zq_b, zq_c, zq_d, zq_e, zq_f, zq_g, zq_h, zq_i, zq_j, zq_k, zq_l, zq_m, zq_n, zq_o, zq_p, zq_q, zq_r, zq_s, zq_t, zq_u, zq_v, zq_w, zq_x, zq_y, zq_z, zq_A, zq_B, zq_C, zq_D, zq_E, zq_F, zq_G, zq_H, zq_I, zq_J, zq_K, zq_L, ↓zq_M, ↓zq_N, ↓zq_O, ↓zq_P, ↓zq_Q, ↓zq_R, zq_S, zq_T, zq_U, zq_V, zq_W, zq_X, zq_Y, zq_Z, zq_0, zq_1, zq_2, zq_3, zq_4, zq_5, ↓zq_6, ↓zq_7, ↓zq_8, ↓zq_9, ↓zq_aa, zq_ab, zq_ac, zq_ad, zq_ae, zq_af, zq_ag, ↓zq_ah, ↓zq_ai, ↓zq_aj, zq_ak, ↓zq_al, ↓zq_am, e_b1, e_b2, x_o1, x_o2, g, c1]
    · rw [if_neg c1]
      simp [zq_a, zq_b, zq_c, zq_d, zq_e, zq_f, zq_g, zq_h, zq_i, zq_j, zq_k, zq_l, zq_m, zq_n, zq_o, zq_p, zq_q, zq_r, zq_s, zq_t, zq_u, zq_v, zq_w, zq_x, zq_y, zq_z, zq_A, zq_B, zq_C, zq_D, zq_E, zq_F, zq_G, zq_H, zq_I, zq_J, zq_K, zq_L, ↓zq_M, ↓zq_N, ↓zq_O, ↓zq_P, ↓zq_Q, ↓zq_R, zq_S, zq_T, zq_U, zq_V, zq_W, zq_X, zq_Y, zq_Z, zq_0, zq_1, zq_2, zq_3, zq_4, zq_5, ↓zq_6, ↓zq_7, ↓zq_8, ↓zq_9, ↓zq_aa, zq_ab, zq_ac, zq_ad, zq_ae, zq_af, zq_ag, ↓zq_ah, ↓zq_ai, ↓zq_aj, zq_ak, ↓zq_al, ↓zq_am, e_b1, e_b2, x_o1, x_o2, g, c0, c1]
theorem h_389 (M : EM) : e_gf 389 [26] M = some 32 := p_g 389 26 32 M (by decide +kernel)
theorem h_p390 (v : Int) (M : EM) : e_pf 390 [26, v] M = some (e_up M 26 6 v) := c_pf (by decide +kernel) (by decide +kernel)
theorem h_p391 (v : Int) (M : EM) : e_pf 391 [26, v] M = some (e_up M 26 7 v) := c_pf (by decide +kernel) (by decide +kernel)
def h_skM (M : EM) (h : Int) : EM := e_up (e_up (e_cpm M (h + 1).toNat 0 32 0 120) 26 6 (M h.toNat 5)) 26 7 (h_lv (M h.toNat 4))
theorem h_76 {h : Int} (hh : h ∈ a_SH) (M : EM) : E_C 76 [26, h] M = some (0, h_skM M h) := by
  obtain ⟨s1, s2, s3, s4, s5, s6, s7⟩ := w_sh hh
  have g6 : ∀ M, e_gf 518 [h] M = some (h + 1) := fun M => (c_gr s1 (by decide +kernel)).trans (congrArg some s5)
  have g5 : ∀ M, e_gf 517 [h] M = some (M h.toNat 5) := fun M => c_gf s1 (by decide +kernel)
  have co : E_C 148 [h + 1, 32] M = some (0, e_cpm M (h + 1).toNat 0 32 0 120) := p_co ⟨s2, s3, s4⟩ (by decide +kernel) M
  have f1 : ∀ k, e_cpm M (h + 1).toNat 0 32 0 120 h.toNat k = M h.toNat k := fun k => if_neg (by omega)
  have f2 : ∀ k v, e_up (e_cpm M (h + 1).toNat 0 32 0 120) 26 6 v h.toNat k = M h.toNat k := fun k v => (c_up_n (by omega)).trans (f1 k)
  have l := h_89 hh (e_up (e_cpm M (h + 1).toNat 0 32 0 120) 26 6 (M h.toNat 5))
  rw [f2] at l
  have g5' := g5 (e_cpm M (h + 1).toNat 0 32 0 120)
  rw [f1] at g5'
  rw [r_ent (show e_rok 76 [26, h] = true from decide_eq_true (show e_isO 6 26 by decide +kernel))]
  show e_tv E_C (E_V 76) e_t76_0 [26, h] M = _
  unfold e_t76_0 h_skM
  simp [zq_a, zq_b, zq_c, zq_d, zq_e, zq_f, zq_g, zq_h, zq_i, zq_j, zq_k, zq_l, zq_m, zq_n, zq_o, zq_p, zq_q, zq_r, zq_s, zq_t, zq_u, zq_v, zq_w, zq_x, zq_y, zq_z, zq_A, zq_B, zq_C, zq_D, zq_E, zq_F, zq_G, zq_H, zq_I, zq_J, zq_K, zq_L, ↓zq_M, ↓zq_N, ↓zq_O, ↓zq_P, ↓zq_Q, ↓zq_R, zq_S, zq_T, zq_U, zq_V, zq_W, zq_X, zq_Y, zq_Z, zq_0, zq_1, zq_2, zq_3, zq_4, zq_5, ↓zq_6, ↓zq_7, ↓zq_8, ↓zq_9, ↓zq_aa, zq_ab, zq_ac, zq_ad, zq_ae, zq_af, zq_ag, ↓zq_ah, ↓zq_ai, ↓zq_aj, zq_ak, ↓zq_al, ↓zq_am, e_b1, e_b2, x_o1, x_o2, g6, h_389, co, g5', h_p390, l, h_p391]
end
section
/-! sky: what is told of it stays related -/
def h_K (M : EM) (dc : Nat) (g : Int → Int) : Prop := M (26 + dc) 6 = g 1200 ∧ (g 1200 ≠ 0 → M (26 + dc) 7 = h_lv (g 1201)) ∧ ∀ i : Nat, i < 120 → M (32 + dc) i = g (1202 + (i : Int))
theorem h_skyK {d r1 r2 : Int} {M M1 M2 : EM} (hS : h_S M) (hK : h_K M 0 (r_G M)) (hfr : ∀ id i, 192 ≤ id → M1 id i = M id i) (k1 : E_C 121 [8, d] M = some (r1, M1)) (k2 : E_C 225 [192, d] M1 = some (r2, M2)) : h_K M2 0 (r_G M2) := by
  have k3 := h_189 (d := d) (w := -1) (M := M1) (by decide)
  have eno : h_no M1 d (-1) = h_no M d (-1) := by
    unfold h_no
    rw [hfr 195 _ (by decide), hfr 196 _ (by decide)]
  rw [eno] at k3
  by_cases q : h_no M d (-1) = 0
  · obtain ⟨hd, kept⟩ := h_no2 q
    obtain ⟨m, rfl⟩ : ∃ m : Nat, d = m := ⟨d.toNat, by omega⟩
    rw [Int.toNat_natCast] at kept
    have m8 : m < 8 := by omega
    have hh := (h_gr145 m8).2
    obtain ⟨c0, c1⟩ := h_ref (w := -1) hS hd
    rw [q, Int.toNat_natCast] at c1
    rw [Int.toNat_natCast] at c0
    rw [q] at k3
    have hS' : M (146 + 2 * m) 4 = M 196 m ∧ M (146 + 2 * m) 5 = M 197 m ∧ ∀ i, i < 120 → M (147 + 2 * m) i = M 198 (120 * m + i) := by
      rcases hS m m8 with ⟨a, -⟩ | ⟨a, -⟩ | ⟨a, -, -, e4, e5, e6⟩
      · omega
      · omega
      · exact ⟨e4, e5, e6⟩
    obtain ⟨e4, e5, e6⟩ := hS'
    have k76 := h_76 hh M
    have f5 : e_gf 517 [((146 + 2 * m : Nat) : Int)] (h_skM M ((146 + 2 * m : Nat) : Int)) = some (h_skM M ((146 + 2 * m : Nat) : Int) ((146 + 2 * m : Nat) : Int).toNat 5) := c_gf (w_sh hh).1 (by decide +kernel)
    obtain ⟨-, a2⟩ := Prod.mk.inj (Option.some.inj (k1.symm.trans (h_121y c0 (by omega) c1 k76 f5)))
    have tn : ((146 + 2 * m : Nat) : Int).toNat = 146 + 2 * m := by omega
    have tn1 : (((146 + 2 * m : Nat) : Int) + 1).toNat = 147 + 2 * m := by omega
    unfold h_skM at a2
    rw [tn, tn1] at a2
    have b : 0 ≤ (m : Int) ∧ (m : Int) ≤ 7 := by omega
    have l1 : ∀ M', M' 197 = M1 197 → e_op 60 [197, (m : Int)] M' = some (M1 197 m) := fun M' e => by
      have l := (r_isD (m : Int) M' b).2.2.1
      rw [Int.toNat_natCast, e] at l
      exact l
    have l2 : ∀ M', M' 196 = M1 196 → e_op 60 [196, (m : Int)] M' = some (M1 196 m) := fun M' e => by
      have l := (r_isD (m : Int) M' b).2.1
      rw [Int.toNat_natCast, e] at l
      exact l
    obtain ⟨M', g, s1, s2⟩ := h_225L (z := 0) m8 120 0 (e_up (e_up M1 193 1200 (M1 197 m)) 193 1201 (M1 196 m)) (by decide)
    obtain ⟨-, e3⟩ := Prod.mk.inj (Option.some.inj (k2.symm.trans (h_225y k3 l1 l2 g)))
    subst e3
    have g0 : r_G M2 1200 = M 197 m := by
      show M2 193 1200 = _
      rw [s1 193 1200 (by omega), c_up_n (by omega), c_up_s]
      exact hfr 197 m (by decide)
    have g1 : r_G M2 1201 = M 196 m := by
      show M2 193 1201 = _
      rw [s1 193 1201 (by omega), c_up_s]
      exact hfr 196 m (by decide)
    have far : ∀ id k, id ≠ 193 → M2 id k = M1 id k := fun id k h => by
      rw [s1 id k (by omega), c_up_n (by omega), c_up_n (by omega)]
    refine ⟨?_, fun _ => ?_, fun i hi => ?_⟩
    · rw [g0, far _ _ (by decide), a2, c_up_n (by omega), c_up_s, e5]
    · rw [g1, far _ _ (by decide), a2, c_up_s, e4]
    · have gi : r_G M2 (1202 + (i : Int)) = M 198 (120 * m + i) := by
        show M2 193 (1202 + (i : Int)).toNat = _
        rw [show (1202 + (i : Int)).toNat = 1202 + i by omega, s2 i (Nat.zero_le _) hi, c_up_n (by omega), c_up_n (by omega)]
        exact hfr 198 _ (by decide)
      rw [gi, far _ _ (by decide), a2, c_up_n (by omega), c_up_n (by omega), ← e6 i hi]
      show (if 32 + 0 = 32 ∧ 0 ≤ i ∧ i < 0 + 120 then M (147 + 2 * m) (0 + (i - 0)) else M (32 + 0) i) = _
      rw [if_pos ⟨rfl, Nat.zero_le _, by omega⟩, Nat.zero_add, Nat.sub_zero]
  · have cc : ∃ x, E_C 154 [8, d] M = some (x, M) ∧ E_C 156 [x, -1] M = some (h_no M d (-1), M) := by
      by_cases hd : 0 ≤ d ∧ d < 8
      · exact ⟨_, h_ref hS hd⟩
      · obtain ⟨a, b, c⟩ := h_ref1 (w := -1) (M := M) hd
        exact ⟨-1, a, by rw [c]; exact b⟩
    obtain ⟨x, c0, c1⟩ := cc
    have e1 := Prod.mk.inj (Option.some.inj (k1.symm.trans (h_121n c0 c1 q)))
    have e3 := Prod.mk.inj (Option.some.inj (k2.symm.trans (h_225n k3 q)))
    rw [e3.2, e1.2]
    exact hK
end
section
/-! the sky: what keeps it; image and restore -/
def h_KK (dc s : Nat) : AW := [(26 + dc, 6, 7), (32 + dc, 0, 119), (s, 1200, 1321)]
theorem h_keepK {dc s : Nat} {M M' : EM} (h : ∀ c ∈ h_KK dc s, ∀ k, c.2.1 ≤ k → k ≤ c.2.2 → M' c.1 k = M c.1 k) (hK : h_K M dc (fun i => M s i.toNat)) : h_K M' dc (fun i => M' s i.toNat) := by
  have a := h (26 + dc, 6, 7) (by simp [h_KK])
  have b := h (32 + dc, 0, 119) (by simp [h_KK])
  have c := h (s, 1200, 1321) (by simp [h_KK])
  have c0 : M' s (1200 : Int).toNat = M s (1200 : Int).toNat := c 1200 (Nat.le_refl 1200) (show 1200 ≤ 1321 by decide)
  have c1 : M' s (1201 : Int).toNat = M s (1201 : Int).toNat := c 1201 (show 1200 ≤ 1201 by decide) (show 1201 ≤ 1321 by decide)
  obtain ⟨k1, k2, k3⟩ := hK
  refine ⟨?_, fun e => ?_, fun i hi => ?_⟩
  · show M' (26 + dc) 6 = M' s (1200 : Int).toNat
    rw [a 6 (Nat.le_refl 6) (show 6 ≤ 7 by decide), c0]
    exact k1
  · have e' : M' s (1200 : Int).toNat ≠ 0 := e
    rw [c0] at e'
    show M' (26 + dc) 7 = h_lv (M' s (1201 : Int).toNat)
    rw [a 7 (show 6 ≤ 7 by decide) (Nat.le_refl 7), c1]
    exact k2 e'
  · show M' (32 + dc) i = M' s (1202 + (i : Int)).toNat
    rw [b i (Nat.zero_le _) (by show i ≤ 119; omega), c _ (by show 1200 ≤ _; omega) (by show _ ≤ 1321; omega)]
    exact k3 i hi
theorem h_K_tr {M M' : EM} {dc dc' : Nat} {g g' : Int → Int} (hK : h_K M dc g) (eg : ∀ i : Int, 0 ≤ i → i < 1330 → g' i = g i) (c1 : M' (26 + dc') 6 = M (26 + dc) 6 ∧ M' (26 + dc') 7 = M (26 + dc) 7) (c2 : ∀ j, j < 120 → M' (32 + dc') j = M (32 + dc) j) : h_K M' dc' g' := by
  obtain ⟨k1, k2, k3⟩ := hK
  refine ⟨?_, fun e => ?_, fun i hi => ?_⟩
  · rw [c1.1, eg _ (by decide) (by decide)]; exact k1
  · rw [eg _ (by decide) (by decide)] at e
    rw [c1.2, eg _ (by decide) (by decide)]
    exact k2 e
  · rw [c2 i hi, eg _ (by omega) (by omega)]
    exact k3 i hi
theorem h_covK : (∃ w ∈ p_D48, w.1 = 26 ∧ w.2.1 ≤ 6 ∧ 6 ≤ w.2.2) ∧ (∃ w ∈ p_D48, w.1 = 26 ∧ w.2.1 ≤ 7 ∧ 7 ≤ w.2.2) ∧ (∃ w ∈ p_D48, w.1 = 32 ∧ w.2.1 = 0 ∧ 119 ≤ w.2.2) := by decide +kernel
theorem h_cp1 {so to id j : Nat} {M M1 : EM} (c : p_C so to p_D48 M M1) (h : ∃ w ∈ p_D48, w.1 = id ∧ w.2.1 ≤ j ∧ j ≤ w.2.2) : M1 (id + to) j = M (id + so) j := by
  obtain ⟨w, w1, w2, w3, w4⟩ := h
  have := c.1 w w1 j w3 w4
  rw [w2] at this
  exact this
theorem h_imageK {r1 r2 : Int} {M M1 M2 : EM} (hK : h_K M 0 (r_G M)) (k1 : E_C 136 [8] M = some (r1, M1)) (k2 : E_C 255 [192] M1 = some (r2, M2)) : h_K M2 0 (r_G M2) ∧ h_K M2 68 (r_Gi M2) := by
  obtain ⟨N, c1, c2⟩ := p_image M
  obtain ⟨e1, e2⟩ := Prod.mk.inj (Option.some.inj (k1.symm.trans c1))
  subst e2
  obtain ⟨e3, e4⟩ := Prod.mk.inj (Option.some.inj (k2.symm.trans (r_image _)))
  have far : ∀ id j, id < 78 ∨ 145 < id → N id j = M id j := fun id j h => c2.2.1 _ _ (fun w hw e => by have := c2.2.2 w hw; omega)
  have z : ∀ id j, id ≠ 8 → id ≠ 192 → id ≠ 194 → M2 id j = N id j := fun id j a b c => by
    rw [e4, c_up_n (fun e => b e.1), r_cp_n c, c_up_n (fun e => a e.1)]
  have zi : ∀ j, j < 1330 → M2 194 j = M 193 j := fun j hj => by
    rw [e4, c_up_n (fun e => by omega), r_cp_t hj, c_up_n (fun e => by omega)]
    exact far _ _ (by omega)
  have eG : r_G M2 = r_G M := funext fun i => (z _ _ (by decide) (by decide) (by decide)).trans (far _ _ (by omega))
  have near : ∀ id j, 21 ≤ id → id ≤ 32 → M2 id j = M id j := fun id j a b => (z _ _ (by omega) (by omega) (by omega)).trans (far _ _ (by omega))
  obtain ⟨q1, q2, q3⟩ := h_covK
  exact ⟨h_K_tr hK (fun i _ _ => congrFun eG i) ⟨near 26 6 (by decide) (by decide), near 26 7 (by decide) (by decide)⟩ (fun j _ => near 32 j (by decide) (by decide)), h_K_tr hK (fun i i0 i1 => zi i.toNat (by omega)) ⟨(z _ _ (by decide) (by decide) (by decide)).trans (h_cp1 c2 q1), (z _ _ (by decide) (by decide) (by decide)).trans (h_cp1 c2 q2)⟩ (fun j hj => (z _ _ (by decide) (by decide) (by decide)).trans (h_cpx c2 q3 (by omega)))⟩
theorem h_restoreK {r1 r2 : Int} {M M1 M2 : EM} (hfl : M 8 2 = M 192 9) (hK : h_K M 0 (r_G M)) (hKI : h_K M 68 (r_Gi M)) (k1 : E_C 137 [8] M = some (r1, M1)) (k2 : E_C 256 [192] M1 = some (r2, M2)) : h_K M2 0 (r_G M2) ∧ h_K M2 68 (r_Gi M2) := by
  by_cases z : M 8 2 = 0
  · obtain ⟨e1, e2⟩ := Prod.mk.inj (Option.some.inj (k1.symm.trans (p_restore0 z)))
    subst e2
    rw [r_restore, if_pos (hfl ▸ z)] at k2
    obtain ⟨e3, e4⟩ := Prod.mk.inj (Option.some.inj k2)
    rw [← e4]
    exact ⟨hK, hKI⟩
  · obtain ⟨N, c1, c2⟩ := p_restore z
    obtain ⟨e1, e2⟩ := Prod.mk.inj (Option.some.inj (k1.symm.trans c1))
    subst e2
    have far : ∀ id j, id < 10 ∨ 76 < id → M1 id j = M id j := fun id j h => c2.2.1 _ _ (fun w hw e => by have := c2.2.2 w hw; omega)
    have z2 : ¬ M1 192 9 = 0 := by rw [far _ _ (by omega), ← hfl]; exact z
    rw [r_restore, if_neg z2] at k2
    obtain ⟨e3, e4⟩ := Prod.mk.inj (Option.some.inj k2)
    have w1 : ∀ id j, id ≠ 193 → M2 id j = M1 id j := fun id j h => by rw [← e4]; exact r_cp_n h
    have w2 : ∀ j, j < 1330 → M2 193 j = M 194 j := fun j hj => by rw [← e4, r_cp_t hj]; exact far _ _ (by omega)
    have eg : ∀ i : Int, 0 ≤ i → i < 1330 → r_G M2 i = r_Gi M i := fun i i0 i1 => w2 i.toNat (by omega)
    have ei : r_Gi M2 = r_Gi M := funext fun i => (w1 _ _ (by decide)).trans (far _ _ (by omega))
    have near : ∀ id j, 89 ≤ id → id ≤ 100 → M2 id j = M id j := fun id j a b => (w1 _ _ (by omega)).trans (far _ _ (by omega))
    obtain ⟨q1, q2, q3⟩ := h_covK
    exact ⟨h_K_tr hKI eg ⟨(w1 _ _ (by decide)).trans (h_cp1 c2 q1), (w1 _ _ (by decide)).trans (h_cp1 c2 q2)⟩ (fun j hj => (w1 _ _ (by decide)).trans (h_cpx c2 q3 (by omega))), h_K_tr hKI (fun i _ _ => congrFun ei i) ⟨near 94 6 (by decide) (by decide), near 94 7 (by decide) (by decide)⟩ (fun j _ => near 100 j (by decide) (by decide))⟩
end
section
/-! all that level C relates, and its keepers by frames -/
def h_Q (M : EM) : Prop := h_t1 M ∧ h_C M 0 (r_G M) ∧ h_C M 68 (r_Gi M) ∧ h_K M 0 (r_G M) ∧ h_K M 68 (r_Gi M)
def h_RC (M : EM) : Prop := h_R M ∧ h_Q M
theorem h_ke1 {W : AW} {M M' : EM} (h : h_av [(1, 0, 3)] W = true) (hf : a_fr W M M') (h1 : h_t1 M) : h_t1 M' := by
  have a := h_av_ok h hf (1, 0, 3) List.mem_cons_self
  obtain ⟨t0, t1, t2, t3⟩ := h1
  exact ⟨(a 0 (by decide) (by decide)).trans t0, (a 1 (by decide) (by decide)).trans t1, (a 2 (by decide) (by decide)).trans t2, (a 3 (by decide) (by decide)).trans t3⟩
theorem h_keC {W : AW} {M M' : EM} (h : h_av (h_KC 0 193) W = true) (hf : a_fr W M M') (hB : h_B M 0 (r_G M)) (hC : h_C M 0 (r_G M)) : h_C M' 0 (r_G M') := h_keepC (dc := 0) (s := 193) (h_av_ok h hf) hB.2.1.2 hC
theorem h_keCI {W : AW} {M M' : EM} (h : h_av (h_KC 68 194) W = true) (hf : a_fr W M M') (hB : h_B M 68 (r_Gi M)) (hC : h_C M 68 (r_Gi M)) : h_C M' 68 (r_Gi M') := h_keepC (dc := 68) (s := 194) (h_av_ok h hf) hB.2.1.2 hC
theorem h_keK {W : AW} {M M' : EM} (h : h_av (h_KK 0 193) W = true) (hf : a_fr W M M') (hK : h_K M 0 (r_G M)) : h_K M' 0 (r_G M') := h_keepK (dc := 0) (s := 193) (h_av_ok h hf) hK
theorem h_keKI {W : AW} {M M' : EM} (h : h_av (h_KK 68 194) W = true) (hf : a_fr W M M') (hK : h_K M 68 (r_Gi M)) : h_K M' 68 (r_Gi M') := h_keepK (dc := 68) (s := 194) (h_av_ok h hf) hK
end
