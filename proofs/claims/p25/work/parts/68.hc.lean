section
/-- a field that holds an array of ints -/
theorem c_cells : ((List.range e_N).all fun a => decide ((e_sh a).1 ≠ 1) || (decide (0 < e_gr a 0) && decide ((e_gr a 0).toNat < e_N) && decide (e_sh (e_gr a 0).toNat = (100, 240)) && decide (0 < e_gr a 1) && decide ((e_gr a 1).toNat < e_N) && decide (e_sh (e_gr a 1).toNat = (100, 240)))) = true := by decide +kernel
theorem c_cells_ok {h : Int} (hh : e_isO 1 h) : (0 < e_gr h.toNat 0 ∧ (e_gr h.toNat 0).toNat < e_N ∧ e_sh (e_gr h.toNat 0).toNat = (100, 240)) ∧ (0 < e_gr h.toNat 1 ∧ (e_gr h.toNat 1).toNat < e_N ∧ e_sh (e_gr h.toNat 1).toNat = (100, 240)) := by
  have h1 := List.all_eq_true.mp c_cells h.toNat (List.mem_range.mpr hh.2.1)
  simp only [Bool.or_eq_true, Bool.and_eq_true, decide_eq_true_eq] at h1
  rcases h1 with h1 | ⟨⟨⟨⟨⟨a1, a2⟩, a3⟩, a4⟩, a5⟩, a6⟩
  · exact absurd hh.2.2 h1
  · exact ⟨⟨a1, a2, a3⟩, ⟨a4, a5, a6⟩⟩
/-- an array of 240 read anywhere -/
def c_rd (M : EM) (a i : Int) : Int := if 0 ≤ i ∧ i < 240 then M a.toNat i.toNat else 0
theorem c_at240 {a i : Int} {M : EM} (h : 0 < a ∧ a.toNat < e_N ∧ e_sh a.toNat = (100, 240)) : E_C 146 [a, i] M = some (c_rd M a i, M) := by
  rw [c_at a i M (Or.inr ⟨h.1, h.2.1, by rw [h.2.2]⟩), h.2.2]
  unfold c_rd
  have : a ≠ -1 := by omega
  simp [this]
theorem c_hc_step {h c n f l i : Int} {M : EM} (hh : e_isO 1 h) : E_V 36 67 [h, c, n, f, l, i] M = (if i ≤ l then (if c_rd M (e_gr h.toNat 0) i ≤ c_rd M (e_gr h.toNat 0) (e_w (i - 1)) ∨ c_rd M (e_gr h.toNat 1) (e_w (i - 1)) ≤ c_rd M (e_gr h.toNat 1) i then some (0, M) else E_V 36 67 [h, c, n, f, l, e_w (i + 1)] M) else some (1, M)) := by
  obtain ⟨p0, p1⟩ := c_cells_ok hh
  have g0 : ∀ M', e_gf 64 [h] M' = some (e_gr h.toNat 0) := fun M' => if_pos hh
  have g1 : ∀ M', e_gf 65 [h] M' = some (e_gr h.toNat 1) := fun M' => if_pos hh
  rw [E_V_eq]
  show e_tv E_C (E_V 36) e_t36_67 [h, c, n, f, l, i] M = _
  unfold e_t36_67
  by_cases h1 : i ≤ l
  · by_cases h2 : c_rd M (e_gr h.toNat 0) i ≤ c_rd M (e_gr h.toNat 0) (e_w (i - 1))
    · simp [zq_a, zq_b, zq_c, zq_d, zq_e, zq_f, zq_g, zq_h, zq_i, zq_j, zq_k, zq_l, zq_m, zq_n, zq_o, zq_p, zq_q, zq_r, zq_s, zq_t, zq_u, zq_v, zq_w, zq_x, zq_y, zq_z, zq_A, zq_B, zq_C, zq_D, zq_E, zq_F, zq_G, zq_H, zq_I, zq_J, zq_K, zq_L, ↓zq_M, ↓zq_N, ↓zq_O, ↓zq_P, ↓zq_Q, ↓zq_R, zq_S, zq_T, zq_U, zq_V, zq_W, zq_X, zq_Y, zq_Z, zq_0, zq_1, zq_2, zq_3, zq_4, zq_5, ↓zq_6, ↓zq_7, ↓zq_8, ↓zq_9, ↓zq_aa, zq_ab, zq_ac, zq_ad, zq_ae, zq_af, zq_ag, ↓zq_ah, ↓zq_ai, ↓zq_aj, zq_ak, ↓zq_al, ↓zq_am, e_op, e_b2, g0, g1, c_at240 p0, c_at240 p1, h1, h2]
    · by_cases h3 : c_rd M (e_gr h.toNat 1) (e_w (i - 1)) ≤ c_rd M (e_gr h.toNat 1) i
      · simp [zq_a, zq_b, zq_c, zq_d, zq_e, zq_f, zq_g, zq_h, zq_i, zq_j, zq_k, zq_l, zq_m, zq_n, zq_o, zq_p, zq_q, zq_r, zq_s, zq_t, zq_u, zq_v, zq_w, zq_x, zq_y, zq_z, zq_A, zq_B, zq_C, zq_D, zq_E, zq_F, zq_G, zq_H, zq_I, zq_J, zq_K, zq_L, ↓zq_M, ↓zq_N, ↓zq_O, ↓zq_P, ↓zq_Q, ↓zq_R, zq_S, zq_T, zq_U, zq_V, zq_W, zq_X, zq_Y, zq_Z, zq_0, zq_1, zq_2, zq_3, zq_4, zq_5, ↓zq_6, ↓zq_7, ↓zq_8, ↓zq_9, ↓zq_aa, zq_ab, zq_ac, zq_ad, zq_ae, zq_af, zq_ag, ↓zq_ah, ↓zq_ai, ↓zq_aj, zq_ak, ↓zq_al, ↓zq_am, e_op, e_b2, g0, g1, c_at240 p0, c_at240 p1, h1, h2, h3]
      · simp [zq_a, zq_b, zq_c, zq_d, zq_e, zq_f, zq_g, zq_h, zq_i, zq_j, zq_k, zq_l, zq_m, zq_n, zq_o, zq_p, zq_q, zq_r, zq_s, zq_t, zq_u, zq_v, zq_w, zq_x, zq_y, zq_z, zq_A, zq_B, zq_C, zq_D, zq_E, zq_F, zq_G, zq_H, zq_I, zq_J, zq_K, zq_L, ↓zq_M, ↓zq_N, ↓zq_O, ↓zq_P, ↓zq_Q, ↓zq_R, zq_S, zq_T, zq_U, zq_V, zq_W, zq_X, zq_Y, zq_Z, zq_0, zq_1, zq_2, zq_3, zq_4, zq_5, ↓zq_6, ↓zq_7, ↓zq_8, ↓zq_9, ↓zq_aa, zq_ab, zq_ac, zq_ad, zq_ae, zq_af, zq_ag, ↓zq_ah, ↓zq_ai, ↓zq_aj, zq_ak, ↓zq_al, ↓zq_am, e_op, e_b2, g0, g1, c_at240 p0, c_at240 p1, h1, h2, h3]
  · simp [zq_a, zq_b, zq_c, zq_d, zq_e, zq_f, zq_g, zq_h, zq_i, zq_j, zq_k, zq_l, zq_m, zq_n, zq_o, zq_p, zq_q, zq_r, zq_s, zq_t, zq_u, zq_v, zq_w, zq_x, zq_y, zq_z, zq_A, zq_B, zq_C, zq_D, zq_E, zq_F, zq_G, zq_H, zq_I, zq_J, zq_K, zq_L, ↓zq_M, ↓zq_N, ↓zq_O, ↓zq_P, ↓zq_Q, ↓zq_R, zq_S, zq_T, zq_U, zq_V, zq_W, zq_X, zq_Y, zq_Z, zq_0, zq_1, zq_2, zq_3, zq_4, zq_5, ↓zq_6, ↓zq_7, ↓zq_8, ↓zq_9, ↓zq_aa, zq_ab, zq_ac, zq_ad, zq_ae, zq_af, zq_ag, ↓zq_ah, ↓zq_ai, ↓zq_aj, zq_ak, ↓zq_al, ↓zq_am, e_op, e_b2, g0, g1, c_at240 p0, c_at240 p1, h1]
theorem c_hc_loop {h c n f l : Int} {M : EM} (hh : e_isO 1 h) : ∀ (m : Nat) (i : Int), -2147483648 ≤ i → i ≤ 2147483647 → (241 - i).toNat ≤ m → ∃ r, E_V 36 67 [h, c, n, f, l, i] M = some (r, M) ∧ 0 ≤ r ∧ r ≤ 1 := by
  intro m
  induction m with
  | zero =>
    intro i hlo hhi hi
    rw [c_hc_step hh]
    split
    · split
      · exact ⟨0, rfl, by decide, by decide⟩
      · rename_i hc
        exfalso
        refine hc (Or.inl ?_)
        have e1 : c_rd M (e_gr h.toNat 0) i = 0 := if_neg (by omega)
        have e2 : c_rd M (e_gr h.toNat 0) (e_w (i - 1)) = 0 := if_neg (by unfold e_w; omega)
        rw [e1, e2]; exact Int.le_refl _
    · exact ⟨1, rfl, by decide, by decide⟩
  | succ m ih =>
    intro i hlo hhi hi
    rw [c_hc_step hh]
    split
    · split
      · exact ⟨0, rfl, by decide, by decide⟩
      · rename_i hc
        by_cases h0 : 0 ≤ i ∧ i ≤ 240
        · rw [a_w_id (by omega) (by omega)]
          exact ih (i + 1) (by omega) (by omega) (by omega)
        · exfalso
          refine hc (Or.inl ?_)
          have e1 : c_rd M (e_gr h.toNat 0) i = 0 := if_neg (by omega)
          have e2 : c_rd M (e_gr h.toNat 0) (e_w (i - 1)) = 0 := if_neg (by unfold e_w; omega)
          rw [e1, e2]; exact Int.le_refl _
    · exact ⟨1, rfl, by decide, by decide⟩
theorem c_hc {h c n : Int} {M : EM} (hh : e_isO 1 h) : ∃ r, E_C 36 [h, c, n] M = some (r, M) ∧ 0 ≤ r ∧ r ≤ 1 := by
  obtain ⟨p0, p1⟩ := c_cells_ok hh
  have g0 : ∀ M', e_gf 64 [h] M' = some (e_gr h.toNat 0) := fun M' => if_pos hh
  have g1 : ∀ M', e_gf 65 [h] M' = some (e_gr h.toNat 1) := fun M' => if_pos hh
  have h1 : E_C 36 [h, c, n] M = e_tv E_C (E_V 36) e_t36_0 [h, c, n, 0, 0, 0] M := by
    unfold E_C
    rw [if_pos (show e_rok 36 [h, c, n] = true from decide_eq_true hh), E_V_eq]
    rfl
  rw [h1]
  unfold e_t36_0
  generalize hf : e_w (c * 6) = f
  generalize hl : e_w (e_w (f + n) - 1) = l
  have hend := c_hc_loop (c := c) (n := n) (f := f) (l := l) (M := M) hh _ (e_w (f + 1)) (a_w _).1 (a_w _).2 (Nat.le_refl _)
  by_cases q1 : c_rd M (e_gr h.toNat 0) f = 0
  · by_cases q2 : c_rd M (e_gr h.toNat 0) l ≤ 60
    · by_cases q3 : c_rd M (e_gr h.toNat 1) f = 0
      · exact ⟨0, by simp [zq_a, zq_b, zq_c, zq_d, zq_e, zq_f, zq_g, zq_h, zq_i, zq_j, zq_k, zq_l, zq_m, zq_n, zq_o, zq_p, zq_q, zq_r, zq_s, zq_t, zq_u, zq_v, zq_w, zq_x, zq_y, zq_z, zq_A, zq_B, zq_C, zq_D, zq_E, zq_F, zq_G, zq_H, zq_I, zq_J, zq_K, zq_L, ↓zq_M, ↓zq_N, ↓zq_O, ↓zq_P, ↓zq_Q, ↓zq_R, zq_S, zq_T, zq_U, zq_V, zq_W, zq_X, zq_Y, zq_Z, zq_0, zq_1, zq_2, zq_3, zq_4, zq_5, ↓zq_6, ↓zq_7, ↓zq_8, ↓zq_9, ↓zq_aa, zq_ab, zq_ac, zq_ad, zq_ae, zq_af, zq_ag, ↓zq_ah, ↓zq_ai, ↓zq_aj, zq_ak, ↓zq_al, ↓zq_am, e_op, e_b1, e_b2, g0, g1, c_at240 p0, c_at240 p1, hf, hl, q1, q2, q3], by decide, by decide⟩
      · by_cases q4 : c_rd M (e_gr h.toNat 1) l = 0
        · obtain ⟨r, r1, r2⟩ := hend
          exact ⟨r, by simp [zq_a, zq_b, zq_c, zq_d, zq_e, zq_f, zq_g, zq_h, zq_i, zq_j, zq_k, zq_l, zq_m, zq_n, zq_o, zq_p, zq_q, zq_r, zq_s, zq_t, zq_u, zq_v, zq_w, zq_x, zq_y, zq_z, zq_A, zq_B, zq_C, zq_D, zq_E, zq_F, zq_G, zq_H, zq_I, zq_J, zq_K, zq_L, ↓zq_M, ↓zq_N, ↓zq_O, ↓zq_P, ↓zq_Q, ↓zq_R, zq_S, zq_T, zq_U, zq_V, zq_W, zq_X, zq_Y, zq_Z, zq_0, zq_1, zq_2, zq_3, zq_4, zq_5, ↓zq_6, ↓zq_7, ↓zq_8, ↓zq_9, ↓zq_aa, zq_ab, zq_ac, zq_ad, zq_ae, zq_af, zq_ag, ↓zq_ah, ↓zq_ai, ↓zq_aj, zq_ak, ↓zq_al, ↓zq_am, e_op, e_b1, e_b2, g0, g1, c_at240 p0, c_at240 p1, hf, hl, q1, q2, q3, q4, r1], r2⟩
        · exact ⟨0, by simp [zq_a, zq_b, zq_c, zq_d, zq_e, zq_f, zq_g, zq_h, zq_i, zq_j, zq_k, zq_l, zq_m, zq_n, zq_o, zq_p, zq_q, zq_r, zq_s, zq_t, zq_u, zq_v, zq_w, zq_x, zq_y, zq_z, zq_A, zq_B, zq_C, zq_D, zq_E, zq_F, zq_G, zq_H, zq_I, zq_J, zq_K, zq_L, ↓zq_M, ↓zq_N, ↓zq_O, ↓zq_P, ↓zq_Q, ↓zq_R, zq_S, zq_T, zq_U, zq_V, zq_W, zq_X, zq_Y, zq_Z, zq_0, zq_1, zq_2, zq_3, zq_4, zq_5, ↓zq_6, ↓zq_7, ↓zq_8, ↓zq_9, ↓zq_aa, zq_ab, zq_ac, zq_ad, zq_ae, zq_af, zq_ag, ↓zq_ah, ↓zq_ai, ↓zq_aj, zq_ak, ↓zq_al, ↓zq_am, e_op, e_b1, e_b2, g0, g1, c_at240 p0, c_at240 p1, hf, hl, q1, q2, q3, q4], by decide, by decide⟩
    · exact ⟨0, by simp [zq_a, zq_b, zq_c, zq_d, zq_e, zq_f, zq_g, zq_h, zq_i, zq_j, zq_k, zq_l, zq_m, zq_n, zq_o, zq_p, zq_q, zq_r, zq_s, zq_t, zq_u, zq_v, zq_w, zq_x, zq_y, zq_z, zq_A, zq_B, zq_C, zq_D, zq_E, zq_F, zq_G, zq_H, zq_I, zq_J, zq_K, zq_L, ↓zq_M, ↓zq_N, ↓zq_O, ↓zq_P, ↓zq_Q, ↓zq_R, zq_S, zq_T, zq_U, zq_V, zq_W, zq_X, zq_Y, zq_Z, zq_0, zq_1, zq_2, zq_3, zq_4, zq_5, ↓zq_6, ↓zq_7, ↓zq_8, ↓zq_9, ↓zq_aa, zq_ab, zq_ac, zq_ad, zq_ae, zq_af, zq_ag, ↓zq_ah, ↓zq_ai, ↓zq_aj, zq_ak, ↓zq_al, ↓zq_am, e_op, e_b1, e_b2, g0, g1, c_at240 p0, c_at240 p1, hf, hl, q1, q2], by decide, by decide⟩
  · exact ⟨0, by simp [zq_a, zq_b, zq_c, zq_d, zq_e, zq_f, zq_g, zq_h, zq_i, zq_j, zq_k, zq_l, zq_m, zq_n, zq_o, zq_p, zq_q, zq_r, zq_s, zq_t, zq_u, zq_v, zq_w, zq_x, zq_y, zq_z, zq_A, zq_B, zq_C, zq_D, zq_E, zq_F, zq_G, zq_H, zq_I, zq_J, zq_K, zq_L, ↓zq_M, ↓zq_N, ↓zq_O, ↓zq_P, ↓zq_Q, ↓zq_R, zq_S, zq_T, zq_U, zq_V, zq_W, zq_X, zq_Y, zq_Z, zq_0, zq_1, zq_2, zq_3, zq_4, zq_5, ↓zq_6, ↓zq_7, ↓zq_8, ↓zq_9, ↓zq_aa, zq_ab, zq_ac, zq_ad, zq_ae, zq_af, zq_ag, ↓zq_ah, ↓zq_ai, ↓zq_aj, zq_ak, ↓zq_al, ↓zq_am, e_op, e_b1, e_b2, g0, g1, c_at240 p0, c_at240 p1, hf, hl, q1], by decide, by decide⟩
end
section
theorem c_gf {key : Nat} {a : Int} {M : EM} (h : e_isO (key / 64) a) (ht : e_fty key ≠ 2) : e_gf key [a] M = some (M a.toNat (key % 64)) := by
  show (if e_isO (key / 64) a then some (if e_fty key = 2 then e_gr a.toNat (key % 64) else M a.toNat (key % 64)) else none) = _
  rw [if_pos h, if_neg ht]
theorem c_gr {key : Nat} {a : Int} {M : EM} (h : e_isO (key / 64) a) (ht : e_fty key = 2) : e_gf key [a] M = some (e_gr a.toNat (key % 64)) := by
  show (if e_isO (key / 64) a then some (if e_fty key = 2 then e_gr a.toNat (key % 64) else M a.toNat (key % 64)) else none) = _
  rw [if_pos h, if_pos ht]
theorem c_pf {key : Nat} {a v : Int} {M : EM} (h : e_isO (key / 64) a) (ht : e_fty key ≠ 2) : e_pf key [a, v] M = some (e_up M a.toNat (key % 64) v) := if_pos ⟨h, ht⟩
theorem c_up_s {M : EM} {a k : Nat} {v : Int} : e_up M a k v a k = v := by unfold e_up; simp
theorem c_up_n {M : EM} {a k b j : Nat} {v : Int} (h : ¬ (b = a ∧ j = k)) : e_up M a k v b j = M b j := by
  unfold e_up
  by_cases hb : b = a
  · rw [if_pos hb, if_neg (fun hj => h ⟨hb, hj⟩)]
  · rw [if_neg hb]
/-- the known methods but for the reading of a TEXT -/
def a_orc0 (W : AW) (u : Nat) (xs : List AV) : Option AV := if u = 59 then none else a_orc1 W u xs
theorem a_orc0_ok (W : AW) : a_CALL W (a_orc0 W) := by
  intro u xs v h as M hg hM
  unfold a_orc0 at h
  split at h
  · cases h
  · rename_i n59
    unfold a_orc1 at h
    split at h
    · rename_i hu
      subst hu
      split at h
      · exact a_at_ok h hg hM
      · cases h
    · split at h
      · rename_i hu
        subst hu
        split at h
        · rename_i ids x y
          split at h
          · rename_i hall
            cases h
            obtain ⟨a, b, c, rfl, ha, -, -⟩ := a_gs_3 hg
            obtain ⟨r, r1, r2, r3⟩ := c_hc (c := b) (n := c) (M := M) (of_decide_eq_true (List.all_eq_true.mp hall a ha))
            exact ⟨r, M, r1, a_gi r2 r3, hM, a_fr_rf⟩
          · cases h
        · cases h
      · cases h
set_option maxRecDepth 100000 in
theorem a_g60 : (a_rok 60 a_x60 && a_an a_w60 (a_orc0 a_w60) 60 60 [] (a_ent 60 a_x60) (.mulL 4 (.num 0))) = true := by decide +kernel
theorem a_w60_RW : a_sub a_w60 a_RW = true ∧ (a_w60.all fun w => decide (w.1 ≠ e_RD.toNat) || decide (2 ≤ w.2.1)) = true := by decide +kernel
theorem a_sub_fr {R W : AW} {M M' : EM} (h : a_sub R W = true) (hf : a_fr R M M') : a_fr W M M' := by
  intro id k hw
  refine hf id k (fun r hr hc => ?_)
  obtain ⟨w, w1, w2⟩ := List.any_eq_true.mp (List.all_eq_true.mp h r hr)
  simp only [Bool.and_eq_true, decide_eq_true_eq] at w2
  exact hw w w1 ⟨by omega, by omega, by omega⟩
/-- one byte more -/
theorem c_goOn {x : Int} {M : EM} (hM : a_M M) (hx : -2147483648 ≤ x ∧ x ≤ 2147483647) : ∃ r M', E_C 60 [e_RD, x] M = some (r, M') ∧ (0 ≤ r ∧ r ≤ 1) ∧ a_M M' ∧ a_fr a_RW M M' ∧ M' e_RD.toNat 0 = M e_RD.toNat 0 ∧ M' e_RD.toNat 1 = M e_RD.toNat 1 := by
  have hg : a_gs a_x60 [e_RD, x] := ⟨List.mem_cons_self, a_gi hx.1 hx.2, trivial⟩
  obtain ⟨r, M', h1, h2, h3, h4⟩ := a_call_ok (a_orc0_ok a_w60) a_g60 hg hM
  have hk : ∀ k, k < 2 → M' e_RD.toNat k = M e_RD.toNat k := by
    intro k hk
    refine h4 _ _ (fun w hw hc => ?_)
    have := List.all_eq_true.mp a_w60_RW.2 w hw
    simp only [Bool.or_eq_true, decide_eq_true_eq] at this
    rcases this with h | h
    · exact h hc.1
    · omega
  have hr : a_g (a_i 0 1) r := by
    have : a_rho 60 = a_i 0 1 := by rfl
    rw [← this]; exact h2
  exact ⟨r, M', h1, ⟨hr.1, hr.2.1⟩, h3, a_sub_fr a_w60_RW.1 h4, hk 0 (by decide), hk 1 (by decide)⟩
theorem c_rd5 : e_isO 5 e_RD := by decide +kernel
theorem c_shelf {h : Int} (hh : h ∈ a_SH) : e_isO 8 h ∧ 0 < e_gr h.toNat 6 ∧ (e_gr h.toNat 6).toNat < e_N ∧ e_sh (e_gr h.toNat 6).toNat = (100, 120) := by
  have h2 : ∀ x ∈ a_SH, e_isO 8 x ∧ 0 < e_gr x.toNat 6 ∧ (e_gr x.toNat 6).toNat < e_N ∧ e_sh (e_gr x.toNat 6).toNat = (100, 120) := by decide +kernel
  exact h2 h hh
theorem c_RW_up {M : EM} {k : Nat} {v : Int} (hk : k < 9) (hv : -2147483648 ≤ v ∧ v ≤ 2147483647) (hM : a_M M) : a_M (e_up M e_RD.toNat k v) ∧ a_fr a_RW M (e_up M e_RD.toNat k v) := by
  have hz : ∀ k, k < 9 → a_ok a_RW e_RD.toNat (k : Nat) (k : Nat) (-2147483648, 2147483647, false) = true := by decide +kernel
  exact a_up_ok (k := k) (hz k hk) (Int.le_refl _) (Int.le_refl _) ⟨hv.1, hv.2, fun h => by cases h⟩ hM
theorem c_rs_loop {h : Int} (hh : h ∈ a_SH) : ∀ (m : Nat) (M : EM), a_M M → 0 ≤ M e_RD.toNat 1 → (M e_RD.toNat 0 - M e_RD.toNat 1).toNat ≤ m → a_OUT a_RW (a_i 0 1) M (E_V 59 28 [e_RD, h] M) := by
  obtain ⟨s1, s2, s3, s4⟩ := c_shelf hh
  have f0 : ∀ M, e_gf 320 [e_RD] M = some (M e_RD.toNat 0) := fun M => c_gf c_rd5 (by decide +kernel)
  have f1 : ∀ M, e_gf 321 [e_RD] M = some (M e_RD.toNat 1) := fun M => c_gf c_rd5 (by decide +kernel)
  have f2 : ∀ M, e_gf 322 [e_RD] M = some (M e_RD.toNat 2) := fun M => c_gf c_rd5 (by decide +kernel)
  have f7 : ∀ M, e_gf 327 [e_RD] M = some (M e_RD.toNat 7) := fun M => c_gf c_rd5 (by decide +kernel)
  have p1 : ∀ v M, e_pf 321 [e_RD, v] M = some (e_up M e_RD.toNat 1 v) := fun v M => c_pf c_rd5 (by decide +kernel)
  have g6 : ∀ M, e_gf 518 [h] M = some (e_gr h.toNat 6) := fun M => c_gr s1 (by decide +kernel)
  intro m
  induction m with
  | zero =>
    intro M hM h0 hm
    have hlt : ¬ (M e_RD.toNat 1 < M e_RD.toNat 0) := by omega
    rw [E_V_eq]
    show a_OUT _ _ _ (e_tv E_C (E_V 59) e_t59_28 [e_RD, h] M)
    unfold e_t59_28
    by_cases q1 : M e_RD.toNat 2 = 0
    · by_cases q2 : 0 < M e_RD.toNat 7
      · exact ⟨1, M, by simp [zq_a, zq_b, zq_c, zq_d, zq_e, zq_f, zq_g, zq_h, zq_i, zq_j, zq_k, zq_l, zq_m, zq_n, zq_o, zq_p, zq_q, zq_r, zq_s, zq_t, zq_u, zq_v, zq_w, zq_x, zq_y, zq_z, zq_A, zq_B, zq_C, zq_D, zq_E, zq_F, zq_G, zq_H, zq_I, zq_J, zq_K, zq_L, ↓zq_M, ↓zq_N, ↓zq_O, ↓zq_P, ↓zq_Q, ↓zq_R, zq_S, zq_T, zq_U, zq_V, zq_W, zq_X, zq_Y, zq_Z, zq_0, zq_1, zq_2, zq_3, zq_4, zq_5, ↓zq_6, ↓zq_7, ↓zq_8, ↓zq_9, ↓zq_aa, zq_ab, zq_ac, zq_ad, zq_ae, zq_af, zq_ag, ↓zq_ah, ↓zq_ai, ↓zq_aj, zq_ak, ↓zq_al, ↓zq_am, e_op, e_b1, e_b2, f0, f1, f2, f7, hlt, q1, q2], a_gi (by decide) (by decide), hM, a_fr_rf⟩
      · exact ⟨0, M, by simp [zq_a, zq_b, zq_c, zq_d, zq_e, zq_f, zq_g, zq_h, zq_i, zq_j, zq_k, zq_l, zq_m, zq_n, zq_o, zq_p, zq_q, zq_r, zq_s, zq_t, zq_u, zq_v, zq_w, zq_x, zq_y, zq_z, zq_A, zq_B, zq_C, zq_D, zq_E, zq_F, zq_G, zq_H, zq_I, zq_J, zq_K, zq_L, ↓zq_M, ↓zq_N, ↓zq_O, ↓zq_P, ↓zq_Q, ↓zq_R, zq_S, zq_T, zq_U, zq_V, zq_W, zq_X, zq_Y, zq_Z, zq_0, zq_1, zq_2, zq_3, zq_4, zq_5, ↓zq_6, ↓zq_7, ↓zq_8, ↓zq_9, ↓zq_aa, zq_ab, zq_ac, zq_ad, zq_ae, zq_af, zq_ag, ↓zq_ah, ↓zq_ai, ↓zq_aj, zq_ak, ↓zq_al, ↓zq_am, e_op, e_b1, e_b2, f0, f1, f2, f7, hlt, q1, q2], a_gi (by decide) (by decide), hM, a_fr_rf⟩
    · exact ⟨0, M, by simp [zq_a, zq_b, zq_c, zq_d, zq_e, zq_f, zq_g, zq_h, zq_i, zq_j, zq_k, zq_l, zq_m, zq_n, zq_o, zq_p, zq_q, zq_r, zq_s, zq_t, zq_u, zq_v, zq_w, zq_x, zq_y, zq_z, zq_A, zq_B, zq_C, zq_D, zq_E, zq_F, zq_G, zq_H, zq_I, zq_J, zq_K, zq_L, ↓zq_M, ↓zq_N, ↓zq_O, ↓zq_P, ↓zq_Q, ↓zq_R, zq_S, zq_T, zq_U, zq_V, zq_W, zq_X, zq_Y, zq_Z, zq_0, zq_1, zq_2, zq_3, zq_4, zq_5, ↓zq_6, ↓zq_7, ↓zq_8, ↓zq_9, ↓zq_aa, zq_ab, zq_ac, zq_ad, zq_ae, zq_af, zq_ag, ↓zq_ah, ↓zq_ai, ↓zq_aj, zq_ak, ↓zq_al, ↓zq_am, e_op, e_b1, e_b2, f0, f1, f2, f7, hlt, q1], a_gi (by decide) (by decide), hM, a_fr_rf⟩
  | succ m ih =>
    intro M hM h0 hm
    rw [E_V_eq]
    show a_OUT _ _ _ (e_tv E_C (E_V 59) e_t59_28 [e_RD, h] M)
    unfold e_t59_28
    by_cases hlt : M e_RD.toNat 1 < M e_RD.toNat 0
    · have h5 : (e_gr h.toNat 6).toNat ≠ 5 := fun e => by rw [e] at s4; exact absurd s4 (by decide +kernel)
      have hat : ∃ v, E_C 146 [e_gr h.toNat 6, M e_RD.toNat 1] M = some (v, M) ∧ -2147483648 ≤ v ∧ v ≤ 2147483647 := by
        refine ⟨_, c_at _ _ M (Or.inr ⟨s2, s3, by rw [s4]⟩), ?_⟩
        split
        · obtain ⟨m1, m2, -⟩ := hM (e_gr h.toNat 6).toNat (M e_RD.toNat 1).toNat h5
          have ho : (e_gr h.toNat 6).toNat ≠ e_OUT := fun e => by rw [e] at s4; exact absurd s4 (by decide +kernel)
          unfold a_lo at m1; unfold a_hi at m2
          rw [if_neg ho] at m1 m2
          exact ⟨m1, m2⟩
        · exact ⟨by decide, by decide⟩
      obtain ⟨v, v1, v2⟩ := hat
      obtain ⟨r, M', g1, g2, g3, g4, g5, g7⟩ := c_goOn hM v2
      by_cases hr : r = 0
      · subst hr
        exact ⟨0, M', by simp [zq_a, zq_b, zq_c, zq_d, zq_e, zq_f, zq_g, zq_h, zq_i, zq_j, zq_k, zq_l, zq_m, zq_n, zq_o, zq_p, zq_q, zq_r, zq_s, zq_t, zq_u, zq_v, zq_w, zq_x, zq_y, zq_z, zq_A, zq_B, zq_C, zq_D, zq_E, zq_F, zq_G, zq_H, zq_I, zq_J, zq_K, zq_L, ↓zq_M, ↓zq_N, ↓zq_O, ↓zq_P, ↓zq_Q, ↓zq_R, zq_S, zq_T, zq_U, zq_V, zq_W, zq_X, zq_Y, zq_Z, zq_0, zq_1, zq_2, zq_3, zq_4, zq_5, ↓zq_6, ↓zq_7, ↓zq_8, ↓zq_9, ↓zq_aa, zq_ab, zq_ac, zq_ad, zq_ae, zq_af, zq_ag, ↓zq_ah, ↓zq_ai, ↓zq_aj, zq_ak, ↓zq_al, ↓zq_am, e_op, e_b1, e_b2, f0, f1, g6, hlt, v1, g1], a_gi (by decide) (by decide), g3, g4⟩
      · have hrng : M e_RD.toNat 1 ≤ 2147483646 := by
          obtain ⟨-, m2, -⟩ := hM e_RD.toNat 0 (by decide +kernel)
          have : a_hi e_RD.toNat = 2147483647 := by decide +kernel
          omega
        have hw : e_w (M' e_RD.toNat 1 + 1) = M e_RD.toNat 1 + 1 := by rw [g7]; exact a_w_id (by omega) (by omega)
        obtain ⟨u1, u2⟩ := c_RW_up (M := M') (k := 1) (v := M e_RD.toNat 1 + 1) (by decide) ⟨by omega, by omega⟩ g3
        have hM2 : (e_up M' e_RD.toNat 1 (M e_RD.toNat 1 + 1)) e_RD.toNat 0 = M e_RD.toNat 0 := by rw [c_up_n (by decide), g5]
        have hM3 : (e_up M' e_RD.toNat 1 (M e_RD.toNat 1 + 1)) e_RD.toNat 1 = M e_RD.toNat 1 + 1 := c_up_s
        have hrec := ih (e_up M' e_RD.toNat 1 (M e_RD.toNat 1 + 1)) u1 (by rw [hM3]; omega) (by rw [hM2, hM3]; omega)
        refine a_OUT_tr (a_fr_tr g4 u2) ?_
        have he : e_tv E_C (E_V 59) e_t59_28 [e_RD, h] M = E_V 59 28 [e_RD, h] (e_up M' e_RD.toNat 1 (M e_RD.toNat 1 + 1)) := by
          unfold e_t59_28
          simp [zq_a, zq_b, zq_c, zq_d, zq_e, zq_f, zq_g, zq_h, zq_i, zq_j, zq_k, zq_l, zq_m, zq_n, zq_o, zq_p, zq_q, zq_r, zq_s, zq_t, zq_u, zq_v, zq_w, zq_x, zq_y, zq_z, zq_A, zq_B, zq_C, zq_D, zq_E, zq_F, zq_G, zq_H, zq_I, zq_J, zq_K, zq_L, ↓zq_M, ↓zq_N, ↓zq_O, ↓zq_P, ↓zq_Q, ↓zq_R, zq_S, zq_T, zq_U, zq_V, zq_W, zq_X, zq_Y, zq_Z, zq_0, zq_1, zq_2, zq_3, zq_4, zq_5, ↓zq_6, ↓zq_7, ↓zq_8, ↓zq_9, ↓zq_aa, zq_ab, zq_ac, zq_ad, zq_ae, zq_af, zq_ag, ↓zq_ah, ↓zq_ai, ↓zq_aj, zq_ak, ↓zq_al, ↓zq_am, e_op, e_b1, e_b2, f0, f1, g6, hlt, v1, g1, hr, hw, p1]
        unfold e_t59_28 at he
        rw [he]
        exact hrec
    · by_cases q1 : M e_RD.toNat 2 = 0
      · by_cases q2 : 0 < M e_RD.toNat 7
        · exact ⟨1, M, by simp [zq_a, zq_b, zq_c, zq_d, zq_e, zq_f, zq_g, zq_h, zq_i, zq_j, zq_k, zq_l, zq_m, zq_n, zq_o, zq_p, zq_q, zq_r, zq_s, zq_t, zq_u, zq_v, zq_w, zq_x, zq_y, zq_z, zq_A, zq_B, zq_C, zq_D, zq_E, zq_F, zq_G, zq_H, zq_I, zq_J, zq_K, zq_L, ↓zq_M, ↓zq_N, ↓zq_O, ↓zq_P, ↓zq_Q, ↓zq_R, zq_S, zq_T, zq_U, zq_V, zq_W, zq_X, zq_Y, zq_Z, zq_0, zq_1, zq_2, zq_3, zq_4, zq_5, ↓zq_6, ↓zq_7, ↓zq_8, ↓zq_9, ↓zq_aa, zq_ab, zq_ac, zq_ad, zq_ae, zq_af, zq_ag, ↓zq_ah, ↓zq_ai, ↓zq_aj, zq_ak, ↓zq_al, ↓zq_am, e_op, e_b1, e_b2, f0, f1, f2, f7, hlt, q1, q2], a_gi (by decide) (by decide), hM, a_fr_rf⟩
        · exact ⟨0, M, by simp [zq_a, zq_b, zq_c, zq_d, zq_e, zq_f, zq_g, zq_h, zq_i, zq_j, zq_k, zq_l, zq_m, zq_n, zq_o, zq_p, zq_q, zq_r, zq_s, zq_t, zq_u, zq_v, zq_w, zq_x, zq_y, zq_z, zq_A, zq_B, zq_C, zq_D, zq_E, zq_F, zq_G, zq_H, zq_I, zq_J, zq_K, zq_L, ↓zq_M, ↓zq_N, ↓zq_O, ↓zq_P, ↓zq_Q, ↓zq_R, zq_S, zq_T, zq_U, zq_V, zq_W, zq_X, zq_Y, zq_Z, zq_0, zq_1, zq_2, zq_3, zq_4, zq_5, ↓zq_6, ↓zq_7, ↓zq_8, ↓zq_9, ↓zq_aa, zq_ab, zq_ac, zq_ad, zq_ae, zq_af, zq_ag, ↓zq_ah, ↓zq_ai, ↓zq_aj, zq_ak, ↓zq_al, ↓zq_am, e_op, e_b1, e_b2, f0, f1, f2, f7, hlt, q1, q2], a_gi (by decide) (by decide), hM, a_fr_rf⟩
      · exact ⟨0, M, by simp [zq_a, zq_b, zq_c, zq_d, zq_e, zq_f, zq_g, zq_h, zq_i, zq_j, zq_k, zq_l, zq_m, zq_n, zq_o, zq_p, zq_q, zq_r, zq_s, zq_t, zq_u, zq_v, zq_w, zq_x, zq_y, zq_z, zq_A, zq_B, zq_C, zq_D, zq_E, zq_F, zq_G, zq_H, zq_I, zq_J, zq_K, zq_L, ↓zq_M, ↓zq_N, ↓zq_O, ↓zq_P, ↓zq_Q, ↓zq_R, zq_S, zq_T, zq_U, zq_V, zq_W, zq_X, zq_Y, zq_Z, zq_0, zq_1, zq_2, zq_3, zq_4, zq_5, ↓zq_6, ↓zq_7, ↓zq_8, ↓zq_9, ↓zq_aa, zq_ab, zq_ac, zq_ad, zq_ae, zq_af, zq_ag, ↓zq_ah, ↓zq_ai, ↓zq_aj, zq_ak, ↓zq_al, ↓zq_am, e_op, e_b1, e_b2, f0, f1, f2, f7, hlt, q1], a_gi (by decide) (by decide), hM, a_fr_rf⟩
end
section
theorem c_rs {h : Int} {M : EM} (hh : h ∈ a_SH) (hM : a_M M) : a_OUT a_RW (a_i 0 1) M (E_C 59 [e_RD, h] M) := by
  obtain ⟨s1, s2, s3, s4⟩ := c_shelf hh
  have f5 : ∀ M, e_gf 517 [h] M = some (M h.toNat 5) := fun M => c_gf s1 (by decide +kernel)
  have p0 : ∀ v M, e_pf 320 [e_RD, v] M = some (e_up M e_RD.toNat 0 v) := fun v M => c_pf c_rd5 (by decide +kernel)
  have p1 : ∀ v M, e_pf 321 [e_RD, v] M = some (e_up M e_RD.toNat 1 v) := fun v M => c_pf c_rd5 (by decide +kernel)
  have p2 : ∀ v M, e_pf 322 [e_RD, v] M = some (e_up M e_RD.toNat 2 v) := fun v M => c_pf c_rd5 (by decide +kernel)
  have p7 : ∀ v M, e_pf 327 [e_RD, v] M = some (e_up M e_RD.toNat 7 v) := fun v M => c_pf c_rd5 (by decide +kernel)
  have p8 : ∀ v M, e_pf 328 [e_RD, v] M = some (e_up M e_RD.toNat 8 v) := fun v M => c_pf c_rd5 (by decide +kernel)
  have h5 : h.toNat ≠ 5 := fun e => by have := s1.1; omega
  have ho : h.toNat ≠ e_OUT := fun e => by have h2 := s1.2.2; rw [e] at h2; exact absurd h2 (by decide +kernel)
  have hsz : -2147483648 ≤ M h.toNat 5 ∧ M h.toNat 5 ≤ 2147483647 := by
    obtain ⟨m1, m2, -⟩ := hM h.toNat 5 h5
    unfold a_lo at m1; unfold a_hi at m2
    rw [if_neg ho] at m1 m2
    exact ⟨m1, m2⟩
  obtain ⟨a1, b1⟩ := c_RW_up (M := M) (k := 0) (by decide) hsz hM
  obtain ⟨a2, b2⟩ := c_RW_up (k := 2) (v := 0) (by decide) (by decide) a1
  obtain ⟨a3, b3⟩ := c_RW_up (k := 7) (v := 0) (by decide) (by decide) a2
  obtain ⟨a4, b4⟩ := c_RW_up (k := 8) (v := 0) (by decide) (by decide) a3
  obtain ⟨a5, b5⟩ := c_RW_up (k := 1) (v := 0) (by decide) (by decide) a4
  have h1 : E_C 59 [e_RD, h] M = E_V 59 28 [e_RD, h] (e_up (e_up (e_up (e_up (e_up M e_RD.toNat 0 (M h.toNat 5)) e_RD.toNat 2 0) e_RD.toNat 7 0) e_RD.toNat 8 0) e_RD.toNat 1 0) := by
    have : E_C 59 [e_RD, h] M = e_tv E_C (E_V 59) e_t59_0 [e_RD, h] M := by
      unfold E_C
      rw [if_pos (show e_rok 59 [e_RD, h] = true from decide_eq_true c_rd5), E_V_eq]
      rfl
    rw [this]
    unfold e_t59_0
    simp [zq_a, zq_b, zq_c, zq_d, zq_e, zq_f, zq_g, zq_h, zq_i, zq_j, zq_k, zq_l, zq_m, zq_n, zq_o, zq_p, zq_q, zq_r, zq_s, zq_t, zq_u, zq_v, zq_w, zq_x, zq_y, zq_z, zq_A, zq_B, zq_C, zq_D, zq_E, zq_F, zq_G, zq_H, zq_I, zq_J, zq_K, zq_L, ↓zq_M, ↓zq_N, ↓zq_O, ↓zq_P, ↓zq_Q, ↓zq_R, zq_S, zq_T, zq_U, zq_V, zq_W, zq_X, zq_Y, zq_Z, zq_0, zq_1, zq_2, zq_3, zq_4, zq_5, ↓zq_6, ↓zq_7, ↓zq_8, ↓zq_9, ↓zq_aa, zq_ab, zq_ac, zq_ad, zq_ae, zq_af, zq_ag, ↓zq_ah, ↓zq_ai, ↓zq_aj, zq_ak, ↓zq_al, ↓zq_am, f5, p0, p1, p2, p7, p8]
  rw [h1]
  refine a_OUT_tr (a_fr_tr b1 (a_fr_tr b2 (a_fr_tr b3 (a_fr_tr b4 b5)))) ?_
  exact c_rs_loop hh _ _ a5 (by rw [c_up_s]; exact Int.le_refl _) (Nat.le_refl _)
/-- the methods known beside the analysis -/
theorem a_orc1_ok (W : AW) : a_CALL W (a_orc1 W) := by
  intro u xs v h as M hg hM
  by_cases hu : u = 59
  · subst hu
    unfold a_orc1 at h
    rw [if_neg (by decide), if_pos rfl] at h
    split at h
    · rename_i r ids
      split at h
      · rename_i hc
        obtain ⟨rfl, hc2, hc3⟩ := hc
        cases h
        obtain ⟨a, b, rfl, ha, hb⟩ := a_gs_2 hg
        have : a = e_RD := List.mem_singleton.mp ha
        subst this
        have hb2 : b ∈ a_SH := List.contains_iff_mem.mp (List.all_eq_true.mp hc2 b hb)
        obtain ⟨r, M', r1, r2, r3, r4⟩ := c_rs hb2 hM
        exact ⟨r, M', r1, r2, r3, a_sub_fr hc3 r4⟩
      · cases h
    · cases h
  · exact a_orc0_ok W u xs v (by unfold a_orc0; rw [if_neg hu]; exact h) as M hg hM
theorem a_leqs_ok : ∀ {xs ys : List AV} {as : List Int}, a_leqs xs ys = true → a_gs xs as → a_gs ys as
  | [], [], _, _, h => h
  | _ :: _, _ :: _, [], _, h => h.elim
  | _ :: _, _ :: _, _ :: _, h, g => by
    unfold a_leqs at h
    rw [Bool.and_eq_true] at h
    exact ⟨a_leq_ok h.1 g.1, a_leqs_ok h.2 g.2⟩
def a_TOK (T : List (Nat × List AV × AW)) : Prop := ∀ q ∈ T, ∀ (as : List Int) (M : EM), a_gs q.2.1 as → a_M M → a_OUT q.2.2 (a_rho q.1) M (E_C q.1 as M)
theorem a_orcT_ok {T : List (Nat × List AV × AW)} (hT : a_TOK T) (W : AW) : a_CALL W (a_orcT T W) := by
  intro u xs v h as M hg hM
  unfold a_orcT at h
  split at h
  · rename_i r hr
    cases h
    exact a_orc1_ok W u xs _ hr as M hg hM
  · split at h
    · rename_i hc
      obtain ⟨q, hq, h1⟩ := List.any_eq_true.mp hc
      rw [Bool.and_eq_true, Bool.and_eq_true, decide_eq_true_eq] at h1
      obtain ⟨⟨rfl, h2⟩, h3⟩ := h1
      cases h
      obtain ⟨r, M', e1, e2, e3, e4⟩ := hT q hq as M (a_leqs_ok h2 hg) hM
      exact ⟨r, M', e1, e2, e3, a_sub_fr h3 e4⟩
    · cases h
theorem a_Tc {T : List (Nat × List AV × AW)} {u : Nat} {X : List AV} {W : AW} {n : Nat} (h : (a_rok u X && a_an W (a_orcT T W) n u [] (a_ent u X) (.mulL 4 (.num 0))) = true) (hT : a_TOK T) : a_TOK ((u, X, W) :: T) := by
  intro q hq as M hg hM
  rcases List.mem_cons.mp hq with rfl | hq
  · exact a_call_ok (a_orcT_ok hT W) h hg hM
  · exact hT q hq as M hg hM
theorem a_tab0_ok : a_TOK a_tab0 := fun q hq => by cases hq
theorem a_tab1_ok : a_TOK a_tab1 := a_Tc a_kb5 a_tab0_ok
theorem a_tab2_ok : a_TOK a_tab2 := a_Tc a_kb1 a_tab1_ok
theorem a_tab3_ok : a_TOK a_tab3 := a_Tc a_kb11 a_tab2_ok
theorem a_tab4_ok : a_TOK a_tab4 := a_Tc a_kb17 a_tab3_ok
theorem a_tab5_ok : a_TOK a_tab5 := a_Tc a_kb21 a_tab4_ok
theorem a_tab6_ok : a_TOK a_tab6 := a_Tc a_kb160 a_tab5_ok
theorem a_tab7_ok : a_TOK a_tab7 := a_Tc a_kb164 a_tab6_ok
theorem a_orc_ok (W : AW) : a_CALL W (a_orc W) := fun u xs v h => a_orcT_ok a_tab7_ok W u xs v h
/-- an entry of the class: it comes to an end, and writes what its row says at most -/
theorem a_entry {W : AW} {n u : Nat} {xs : List AV} (h : (a_rok u xs && a_an W (a_orc W) n u [] (a_ent u xs) (.mulL 4 (.num 0))) = true) {as : List Int} {M : EM} (hg : a_gs xs as) (hM : a_M M) : ∃ r M', E_C u as M = some (r, M') ∧ a_g (a_rho u) r ∧ a_M M' ∧ a_fr W M M' := a_call_ok (a_orc_ok W) h hg hM
end
section
/-! the three that may throw -/
def c_thr (M : EM) : EM := e_up M 5 0 (M 5 0 + 1)
/-- an answer between two, or a throw (counted), at most these cells written -/
def c_OUT (W : AW) (rho : AV) (M : EM) (o : EO) : Prop := ∃ r M', o = some (r, M') ∧ ((a_g rho r ∧ a_M M' ∧ a_fr W M M') ∨ ((r = e_TH ∨ r = e_TH + 1) ∧ M' = c_thr M))
theorem c_this : e_isO 11 8 := by decide +kernel
theorem c_same {M M' : EM} (h : a_fr [] M M') : M' = M := by
  funext id k
  exact h id k (fun w hw => by cases hw)
theorem c_isPart {p : Int} {M : EM} (hM : a_M M) (hp : -2147483648 ≤ p ∧ p ≤ 2147483647) : ∃ r, E_C 149 [8, p] M = some (r, M) ∧ 0 ≤ r ∧ r ≤ 1 := by
  obtain ⟨r, M', h1, h2, h3, h4⟩ := a_entry a_c149 (as := [8, p]) ⟨List.mem_cons_self, a_gi hp.1 hp.2, trivial⟩ hM
  have := c_same h4
  subst this
  have hr : a_rho 149 = a_i 0 1 := by rfl
  rw [hr] at h2
  exact ⟨r, h1, h2.1, h2.2.1⟩
theorem c_bench {M : EM} : e_gf 709 [8] M = some 170 := by
  rw [c_gr (by decide +kernel) (by decide +kernel)]
  exact congrArg some (by decide +kernel)
theorem c_sub_l {A B : AW} {M M' : EM} (h : a_fr A M M') : a_fr (A ++ B) M M' := fun id k hw => h id k (fun w hw1 => hw w (List.mem_append.mpr (Or.inl hw1)))
theorem c_sub_r {A B : AW} {M M' : EM} (h : a_fr B M M') : a_fr (A ++ B) M M' := fun id k hw => h id k (fun w hw1 => hw w (List.mem_append.mpr (Or.inr hw1)))
theorem c_push {p c : Int} {M : EM} (hM : a_M M) (hp : -2147483648 ≤ p ∧ p ≤ 2147483647) (hc : -2147483648 ≤ c ∧ c ≤ 2147483647) : c_OUT (a_w1 ++ a_w16) a_T64 M (E_C 109 [8, p, c] M) := by
  have h1 : E_C 109 [8, p, c] M = e_tv E_C (E_V 109) e_t109_0 [8, p, c] M := by
    unfold E_C
    rw [if_pos (show e_rok 109 [8, p, c] = true from decide_eq_true c_this), E_V_eq]
    rfl
  rw [h1]
  unfold e_t109_0
  obtain ⟨r, r1, r2, r3⟩ := c_isPart hM hp
  by_cases q0 : r = 0
  · subst q0
    refine ⟨e_TH, c_thr M, ?_, Or.inr ⟨Or.inl rfl, rfl⟩⟩
    simp [zq_a, zq_b, zq_c, zq_d, zq_e, zq_f, zq_g, zq_h, zq_i, zq_j, zq_k, zq_l, zq_m, zq_n, zq_o, zq_p, zq_q, zq_r, zq_s, zq_t, zq_u, zq_v, zq_w, zq_x, zq_y, zq_z, zq_A, zq_B, zq_C, zq_D, zq_E, zq_F, zq_G, zq_H, zq_I, zq_J, zq_K, zq_L, ↓zq_M, ↓zq_N, ↓zq_O, ↓zq_P, ↓zq_Q, ↓zq_R, zq_S, zq_T, zq_U, zq_V, zq_W, zq_X, zq_Y, zq_Z, zq_0, zq_1, zq_2, zq_3, zq_4, zq_5, ↓zq_6, ↓zq_7, ↓zq_8, ↓zq_9, ↓zq_aa, zq_ab, zq_ac, zq_ad, zq_ae, zq_af, zq_ag, ↓zq_ah, ↓zq_ai, ↓zq_aj, zq_ak, ↓zq_al, ↓zq_am, e_op, e_b1, e_b2, r1, c_thr]
  · by_cases q1 : 0 ≤ c
    · by_cases q2 : 999 < c
      · refine ⟨e_TH, c_thr M, ?_, Or.inr ⟨Or.inl rfl, rfl⟩⟩
        simp [zq_a, zq_b, zq_c, zq_d, zq_e, zq_f, zq_g, zq_h, zq_i, zq_j, zq_k, zq_l, zq_m, zq_n, zq_o, zq_p, zq_q, zq_r, zq_s, zq_t, zq_u, zq_v, zq_w, zq_x, zq_y, zq_z, zq_A, zq_B, zq_C, zq_D, zq_E, zq_F, zq_G, zq_H, zq_I, zq_J, zq_K, zq_L, ↓zq_M, ↓zq_N, ↓zq_O, ↓zq_P, ↓zq_Q, ↓zq_R, zq_S, zq_T, zq_U, zq_V, zq_W, zq_X, zq_Y, zq_Z, zq_0, zq_1, zq_2, zq_3, zq_4, zq_5, ↓zq_6, ↓zq_7, ↓zq_8, ↓zq_9, ↓zq_aa, zq_ab, zq_ac, zq_ad, zq_ae, zq_af, zq_ag, ↓zq_ah, ↓zq_ai, ↓zq_aj, zq_ak, ↓zq_al, ↓zq_am, e_op, e_b1, e_b2, r1, q0, q1, q2, c_thr]
      · obtain ⟨s, M2, s1, -, s3, s4⟩ := a_entry a_c1 (as := [170, p]) (M := M) ⟨List.mem_cons_self, a_gi hp.1 hp.2, trivial⟩ hM
        obtain ⟨t, M3, t1, t2, t3, t4⟩ := a_entry a_c16 (as := [170, c]) (M := M2) ⟨List.mem_cons_self, a_gi hc.1 hc.2, trivial⟩ s3
        have hr : a_rho 16 = a_i (-2147483648) 2147483647 := by rfl
        rw [hr] at t2
        have t5 : (-2147483648 : Int) ≤ t := t2.1
        have t6 : t ≤ 2147483647 := t2.2.1
        refine ⟨t, M3, ?_, Or.inl ⟨a_T64_ok ⟨by omega, by omega⟩, t3, a_fr_tr (c_sub_l s4) (c_sub_r t4)⟩⟩
        simp [zq_a, zq_b, zq_c, zq_d, zq_e, zq_f, zq_g, zq_h, zq_i, zq_j, zq_k, zq_l, zq_m, zq_n, zq_o, zq_p, zq_q, zq_r, zq_s, zq_t, zq_u, zq_v, zq_w, zq_x, zq_y, zq_z, zq_A, zq_B, zq_C, zq_D, zq_E, zq_F, zq_G, zq_H, zq_I, zq_J, zq_K, zq_L, ↓zq_M, ↓zq_N, ↓zq_O, ↓zq_P, ↓zq_Q, ↓zq_R, zq_S, zq_T, zq_U, zq_V, zq_W, zq_X, zq_Y, zq_Z, zq_0, zq_1, zq_2, zq_3, zq_4, zq_5, ↓zq_6, ↓zq_7, ↓zq_8, ↓zq_9, ↓zq_aa, zq_ab, zq_ac, zq_ad, zq_ae, zq_af, zq_ag, ↓zq_ah, ↓zq_ai, ↓zq_aj, zq_ak, ↓zq_al, ↓zq_am, e_op, e_b1, e_b2, r1, q0, q1, q2, c_bench, s1, t1]
    · refine ⟨e_TH, c_thr M, ?_, Or.inr ⟨Or.inl rfl, rfl⟩⟩
      simp [zq_a, zq_b, zq_c, zq_d, zq_e, zq_f, zq_g, zq_h, zq_i, zq_j, zq_k, zq_l, zq_m, zq_n, zq_o, zq_p, zq_q, zq_r, zq_s, zq_t, zq_u, zq_v, zq_w, zq_x, zq_y, zq_z, zq_A, zq_B, zq_C, zq_D, zq_E, zq_F, zq_G, zq_H, zq_I, zq_J, zq_K, zq_L, ↓zq_M, ↓zq_N, ↓zq_O, ↓zq_P, ↓zq_Q, ↓zq_R, zq_S, zq_T, zq_U, zq_V, zq_W, zq_X, zq_Y, zq_Z, zq_0, zq_1, zq_2, zq_3, zq_4, zq_5, ↓zq_6, ↓zq_7, ↓zq_8, ↓zq_9, ↓zq_aa, zq_ab, zq_ac, zq_ad, zq_ae, zq_af, zq_ag, ↓zq_ah, ↓zq_ai, ↓zq_aj, zq_ak, ↓zq_al, ↓zq_am, e_op, e_b1, e_b2, r1, q0, q1, c_thr]
theorem c_shelfAt {d : Int} {M : EM} (hM : a_M M) (hd : -2147483648 ≤ d ∧ d ≤ 2147483647) : ∃ r, E_C 154 [8, d] M = some (r, M) ∧ (r = -1 ∨ r ∈ a_SH) := by
  obtain ⟨r, M', h1, h2, h3, h4⟩ := a_entry a_c154 (as := [8, d]) ⟨List.mem_cons_self, a_gi hd.1 hd.2, trivial⟩ hM
  have := c_same h4
  subst this
  have hr : a_rho 154 = a_r (-1 :: a_SH) := by rfl
  rw [hr] at h2
  exact ⟨r, h1, List.mem_cons.mp h2⟩
theorem c_M32 {M : EM} {id k : Nat} (hM : a_M M) (h5 : id ≠ 5) (ho : id ≠ e_OUT) : -2147483648 ≤ M id k ∧ M id k ≤ 2147483647 := by
  obtain ⟨m1, m2, -⟩ := hM id k h5
  unfold a_lo at m1; unfold a_hi at m2
  rw [if_neg ho] at m1 m2
  exact ⟨m1, m2⟩
theorem c_element {d i : Int} {M : EM} (hM : a_M M) (hd : -2147483648 ≤ d ∧ d ≤ 2147483647) (hi : -2147483648 ≤ i ∧ i ≤ 2147483647) : c_OUT [] a_T64 M (E_C 142 [8, d, i] M) := by
  have h1 : E_C 142 [8, d, i] M = e_tv E_C (E_V 142) e_t142_0 [8, d, i, 0] M := by
    unfold E_C
    rw [if_pos (show e_rok 142 [8, d, i] = true from decide_eq_true c_this), E_V_eq]
    rfl
  rw [h1]
  unfold e_t142_0
  obtain ⟨s, s1, s2⟩ := c_shelfAt hM hd
  by_cases q0 : s = -1
  · subst q0
    refine ⟨e_TH, c_thr M, ?_, Or.inr ⟨Or.inl rfl, rfl⟩⟩
    simp [zq_a, zq_b, zq_c, zq_d, zq_e, zq_f, zq_g, zq_h, zq_i, zq_j, zq_k, zq_l, zq_m, zq_n, zq_o, zq_p, zq_q, zq_r, zq_s, zq_t, zq_u, zq_v, zq_w, zq_x, zq_y, zq_z, zq_A, zq_B, zq_C, zq_D, zq_E, zq_F, zq_G, zq_H, zq_I, zq_J, zq_K, zq_L, ↓zq_M, ↓zq_N, ↓zq_O, ↓zq_P, ↓zq_Q, ↓zq_R, zq_S, zq_T, zq_U, zq_V, zq_W, zq_X, zq_Y, zq_Z, zq_0, zq_1, zq_2, zq_3, zq_4, zq_5, ↓zq_6, ↓zq_7, ↓zq_8, ↓zq_9, ↓zq_aa, zq_ab, zq_ac, zq_ad, zq_ae, zq_af, zq_ag, ↓zq_ah, ↓zq_ai, ↓zq_aj, zq_ak, ↓zq_al, ↓zq_am, e_op, e_b1, e_b2, s1, c_thr]
  · have hs := s2.resolve_left q0
    obtain ⟨k1, k2, k3, k4⟩ := c_shelf hs
    have f1 : ∀ M, e_gf 513 [s] M = some (M s.toNat 1) := fun M => c_gf k1 (by decide +kernel)
    have f5 : ∀ M, e_gf 517 [s] M = some (M s.toNat 5) := fun M => c_gf k1 (by decide +kernel)
    have f6 : ∀ M, e_gf 518 [s] M = some (e_gr s.toNat 6) := fun M => c_gr k1 (by decide +kernel)
    by_cases q1 : M s.toNat 1 = 0
    · refine ⟨e_TH + 1, c_thr M, ?_, Or.inr ⟨Or.inr rfl, rfl⟩⟩
      simp [zq_a, zq_b, zq_c, zq_d, zq_e, zq_f, zq_g, zq_h, zq_i, zq_j, zq_k, zq_l, zq_m, zq_n, zq_o, zq_p, zq_q, zq_r, zq_s, zq_t, zq_u, zq_v, zq_w, zq_x, zq_y, zq_z, zq_A, zq_B, zq_C, zq_D, zq_E, zq_F, zq_G, zq_H, zq_I, zq_J, zq_K, zq_L, ↓zq_M, ↓zq_N, ↓zq_O, ↓zq_P, ↓zq_Q, ↓zq_R, zq_S, zq_T, zq_U, zq_V, zq_W, zq_X, zq_Y, zq_Z, zq_0, zq_1, zq_2, zq_3, zq_4, zq_5, ↓zq_6, ↓zq_7, ↓zq_8, ↓zq_9, ↓zq_aa, zq_ab, zq_ac, zq_ad, zq_ae, zq_af, zq_ag, ↓zq_ah, ↓zq_ai, ↓zq_aj, zq_ak, ↓zq_al, ↓zq_am, e_op, e_b1, e_b2, s1, q0, f1, q1, c_thr]
    · by_cases q2 : 0 ≤ i
      · by_cases q3 : M s.toNat 5 ≤ i
        · refine ⟨e_TH + 1, c_thr M, ?_, Or.inr ⟨Or.inr rfl, rfl⟩⟩
          simp [zq_a, zq_b, zq_c, zq_d, zq_e, zq_f, zq_g, zq_h, zq_i, zq_j, zq_k, zq_l, zq_m, zq_n, zq_o, zq_p, zq_q, zq_r, zq_s, zq_t, zq_u, zq_v, zq_w, zq_x, zq_y, zq_z, zq_A, zq_B, zq_C, zq_D, zq_E, zq_F, zq_G, zq_H, zq_I, zq_J, zq_K, zq_L, ↓zq_M, ↓zq_N, ↓zq_O, ↓zq_P, ↓zq_Q, ↓zq_R, zq_S, zq_T, zq_U, zq_V, zq_W, zq_X, zq_Y, zq_Z, zq_0, zq_1, zq_2, zq_3, zq_4, zq_5, ↓zq_6, ↓zq_7, ↓zq_8, ↓zq_9, ↓zq_aa, zq_ab, zq_ac, zq_ad, zq_ae, zq_af, zq_ag, ↓zq_ah, ↓zq_ai, ↓zq_aj, zq_ak, ↓zq_al, ↓zq_am, e_op, e_b1, e_b2, s1, q0, f1, f5, q1, q2, q3, c_thr]
        · have h5 : (e_gr s.toNat 6).toNat ≠ 5 := fun e => by rw [e] at k4; exact absurd k4 (by decide +kernel)
          have ho : (e_gr s.toNat 6).toNat ≠ e_OUT := fun e => by rw [e] at k4; exact absurd k4 (by decide +kernel)
          have hat := c_at (e_gr s.toNat 6) i M (Or.inr ⟨k2, k3, by rw [k4]⟩)
          generalize hv : (if e_gr s.toNat 6 ≠ -1 ∧ 0 ≤ i ∧ i < ((e_sh (e_gr s.toNat 6).toNat).2 : Int) then M (e_gr s.toNat 6).toNat i.toNat else 0) = v at hat
          have hvr : -9223372036854775808 ≤ v ∧ v ≤ 9223372036854775807 := by
            rw [← hv]
            have := c_M32 (k := i.toNat) hM h5 ho
            split <;> omega
          refine ⟨v, M, ?_, Or.inl ⟨a_T64_ok hvr, hM, a_fr_rf⟩⟩
          simp [zq_a, zq_b, zq_c, zq_d, zq_e, zq_f, zq_g, zq_h, zq_i, zq_j, zq_k, zq_l, zq_m, zq_n, zq_o, zq_p, zq_q, zq_r, zq_s, zq_t, zq_u, zq_v, zq_w, zq_x, zq_y, zq_z, zq_A, zq_B, zq_C, zq_D, zq_E, zq_F, zq_G, zq_H, zq_I, zq_J, zq_K, zq_L, ↓zq_M, ↓zq_N, ↓zq_O, ↓zq_P, ↓zq_Q, ↓zq_R, zq_S, zq_T, zq_U, zq_V, zq_W, zq_X, zq_Y, zq_Z, zq_0, zq_1, zq_2, zq_3, zq_4, zq_5, ↓zq_6, ↓zq_7, ↓zq_8, ↓zq_9, ↓zq_aa, zq_ab, zq_ac, zq_ad, zq_ae, zq_af, zq_ag, ↓zq_ah, ↓zq_ai, ↓zq_aj, zq_ak, ↓zq_al, ↓zq_am, e_op, e_b1, e_b2, s1, q0, f1, f5, f6, q1, q2, q3, hat]
      · refine ⟨e_TH + 1, c_thr M, ?_, Or.inr ⟨Or.inr rfl, rfl⟩⟩
        simp [zq_a, zq_b, zq_c, zq_d, zq_e, zq_f, zq_g, zq_h, zq_i, zq_j, zq_k, zq_l, zq_m, zq_n, zq_o, zq_p, zq_q, zq_r, zq_s, zq_t, zq_u, zq_v, zq_w, zq_x, zq_y, zq_z, zq_A, zq_B, zq_C, zq_D, zq_E, zq_F, zq_G, zq_H, zq_I, zq_J, zq_K, zq_L, ↓zq_M, ↓zq_N, ↓zq_O, ↓zq_P, ↓zq_Q, ↓zq_R, zq_S, zq_T, zq_U, zq_V, zq_W, zq_X, zq_Y, zq_Z, zq_0, zq_1, zq_2, zq_3, zq_4, zq_5, ↓zq_6, ↓zq_7, ↓zq_8, ↓zq_9, ↓zq_aa, zq_ab, zq_ac, zq_ad, zq_ae, zq_af, zq_ag, ↓zq_ah, ↓zq_ai, ↓zq_aj, zq_ak, ↓zq_al, ↓zq_am, e_op, e_b1, e_b2, s1, q0, f1, q1, q2, c_thr]
end
section
theorem a_c266 : (a_rok 266 [a_T32] && a_an [] (a_orc []) 60 266 [] (a_ent 266 [a_T32]) (.mulL 4 (.num 0))) = true := by decide +kernel
theorem c_bits {x : Int} {M : EM} (hM : a_M M) (hx : -2147483648 ≤ x ∧ x ≤ 2147483647) : ∃ r, E_C 266 [x] M = some (r, M) := by
  obtain ⟨r, M', h1, h2, h3, h4⟩ := a_entry a_c266 (as := [x]) ⟨a_T32_ok hx, trivial⟩ hM
  have := c_same h4
  subst this
  exact ⟨r, h1⟩
theorem c_bw {p x : Int} {M : EM} (hM : a_M M) (hp : -2147483648 ≤ p ∧ p ≤ 2147483647) (hx : -2147483648 ≤ x ∧ x ≤ 2147483647) : ∃ r M', E_C 160 [8, p, x] M = some (r, M') ∧ a_M M' ∧ a_fr a_w160 M M' := by
  obtain ⟨r, M', h1, h2, h3, h4⟩ := a_entry a_c160 (as := [8, p, x]) ⟨List.mem_cons_self, a_gi hp.1 hp.2, a_gi hx.1 hx.2, trivial⟩ hM
  exact ⟨r, M', h1, h3, h4⟩
theorem c_loss_loop {p c al own : Int} (hp : -2147483648 ≤ p ∧ p ≤ 2147483647) : ∀ (m : Nat) (o sum y6 x8 x9 : Int) (M : EM), a_M M → (16 - o).toNat ≤ m → 0 ≤ o → o ≤ 16 → (-9223372036854775808 ≤ sum ∧ sum ≤ 9223372036854775807) →
    a_OUT a_w160 a_T64 M (E_V 132 67 [8, p, c, al, own, sum, y6, o, x8, x9] M) := by
  intro m
  induction m with
  | zero =>
    intro o sum y6 x8 x9 M hM hm h0 h16 hs
    rw [E_V_eq]
    show a_OUT _ _ _ (e_tv E_C (E_V 132) e_t132_67 [8, p, c, al, own, sum, y6, o, x8, x9] M)
    unfold e_t132_67
    have hlt : ¬ (o < 16) := by omega
    exact ⟨sum, M, by simp [zq_a, zq_b, zq_c, zq_d, zq_e, zq_f, zq_g, zq_h, zq_i, zq_j, zq_k, zq_l, zq_m, zq_n, zq_o, zq_p, zq_q, zq_r, zq_s, zq_t, zq_u, zq_v, zq_w, zq_x, zq_y, zq_z, zq_A, zq_B, zq_C, zq_D, zq_E, zq_F, zq_G, zq_H, zq_I, zq_J, zq_K, zq_L, ↓zq_M, ↓zq_N, ↓zq_O, ↓zq_P, ↓zq_Q, ↓zq_R, zq_S, zq_T, zq_U, zq_V, zq_W, zq_X, zq_Y, zq_Z, zq_0, zq_1, zq_2, zq_3, zq_4, zq_5, ↓zq_6, ↓zq_7, ↓zq_8, ↓zq_9, ↓zq_aa, zq_ab, zq_ac, zq_ad, zq_ae, zq_af, zq_ag, ↓zq_ah, ↓zq_ai, ↓zq_aj, zq_ak, ↓zq_al, ↓zq_am, e_op, e_b1, e_b2, hlt], a_T64_ok hs, hM, a_fr_rf⟩
  | succ m ih =>
    intro o sum y6 x8 x9 M hM hm h0 h16 hs
    have h124 : ∀ (sum y6 x8 x9 : Int) (M : EM), E_V 132 124 [8, p, c, al, own, sum, y6, o, x8, x9] M = E_V 132 67 [8, p, c, al, own, sum, y6, e_w (o + 1), x8, x9] M := by
      intro sum y6 x8 x9 M
      rw [E_V_eq]
      show e_tv E_C (E_V 132) e_t132_124 [8, p, c, al, own, sum, y6, o, x8, x9] M = _
      unfold e_t132_124
      simp [zq_a, zq_b, zq_c, zq_d, zq_e, zq_f, zq_g, zq_h, zq_i, zq_j, zq_k, zq_l, zq_m, zq_n, zq_o, zq_p, zq_q, zq_r, zq_s, zq_t, zq_u, zq_v, zq_w, zq_x, zq_y, zq_z, zq_A, zq_B, zq_C, zq_D, zq_E, zq_F, zq_G, zq_H, zq_I, zq_J, zq_K, zq_L, ↓zq_M, ↓zq_N, ↓zq_O, ↓zq_P, ↓zq_Q, ↓zq_R, zq_S, zq_T, zq_U, zq_V, zq_W, zq_X, zq_Y, zq_Z, zq_0, zq_1, zq_2, zq_3, zq_4, zq_5, ↓zq_6, ↓zq_7, ↓zq_8, ↓zq_9, ↓zq_aa, zq_ab, zq_ac, zq_ad, zq_ae, zq_af, zq_ag, ↓zq_ah, ↓zq_ai, ↓zq_aj, zq_ak, ↓zq_al, ↓zq_am]
    rw [E_V_eq]
    show a_OUT _ _ _ (e_tv E_C (E_V 132) e_t132_67 [8, p, c, al, own, sum, y6, o, x8, x9] M)
    by_cases hlt : o < 16
    · have hw : e_w (o + 1) = o + 1 := a_w_id (by omega) (by omega)
      by_cases hand : e_bit (fun x y => x &&& y) o own = 0
      · obtain ⟨b1, M1, g1, g2, g3⟩ := c_bw hM hp (a_bit (fun x y => x ||| y) o own)
        obtain ⟨b2, M2, k1, k2, k3⟩ := c_bw (x := o) g2 hp ⟨by omega, by omega⟩
        obtain ⟨n, n1⟩ := c_bits (x := o) k2 ⟨by omega, by omega⟩
        have hat := c_at 2 n M2 (Or.inr ⟨by decide, by decide +kernel, by decide +kernel⟩)
        generalize hv : (if (2 : Int) ≠ -1 ∧ 0 ≤ n ∧ n < ((e_sh (2 : Int).toNat).2 : Int) then M2 (2 : Int).toNat n.toNat else 0) = v at hat
        have hrec := ih (o + 1) (e_W (sum + e_W (e_W (b1 - b2) * v))) y6 (e_W (b1 - b2)) x9 M2 k2 (by omega) (by omega) (by omega) (a_W' _)
        refine a_OUT_tr (a_fr_tr g3 k3) ?_
        have he : e_tv E_C (E_V 132) e_t132_67 [8, p, c, al, own, sum, y6, o, x8, x9] M = E_V 132 67 [8, p, c, al, own, e_W (sum + e_W (e_W (b1 - b2) * v)), y6, o + 1, e_W (b1 - b2), x9] M2 := by
          unfold e_t132_67
          simp [zq_a, zq_b, zq_c, zq_d, zq_e, zq_f, zq_g, zq_h, zq_i, zq_j, zq_k, zq_l, zq_m, zq_n, zq_o, zq_p, zq_q, zq_r, zq_s, zq_t, zq_u, zq_v, zq_w, zq_x, zq_y, zq_z, zq_A, zq_B, zq_C, zq_D, zq_E, zq_F, zq_G, zq_H, zq_I, zq_J, zq_K, zq_L, ↓zq_M, ↓zq_N, ↓zq_O, ↓zq_P, ↓zq_Q, ↓zq_R, zq_S, zq_T, zq_U, zq_V, zq_W, zq_X, zq_Y, zq_Z, zq_0, zq_1, zq_2, zq_3, zq_4, zq_5, ↓zq_6, ↓zq_7, ↓zq_8, ↓zq_9, ↓zq_aa, zq_ab, zq_ac, zq_ad, zq_ae, zq_af, zq_ag, ↓zq_ah, ↓zq_ai, ↓zq_aj, zq_ak, ↓zq_al, ↓zq_am, e_op, e_b1, e_b2, hlt, hand, g1, k1, n1, hat, h124, hw]
        rw [he]
        exact hrec
      · have hrec := ih (o + 1) sum y6 x8 x9 M hM (by omega) (by omega) (by omega) hs
        have he : e_tv E_C (E_V 132) e_t132_67 [8, p, c, al, own, sum, y6, o, x8, x9] M = E_V 132 67 [8, p, c, al, own, sum, y6, o + 1, x8, x9] M := by
          unfold e_t132_67
          simp [zq_a, zq_b, zq_c, zq_d, zq_e, zq_f, zq_g, zq_h, zq_i, zq_j, zq_k, zq_l, zq_m, zq_n, zq_o, zq_p, zq_q, zq_r, zq_s, zq_t, zq_u, zq_v, zq_w, zq_x, zq_y, zq_z, zq_A, zq_B, zq_C, zq_D, zq_E, zq_F, zq_G, zq_H, zq_I, zq_J, zq_K, zq_L, ↓zq_M, ↓zq_N, ↓zq_O, ↓zq_P, ↓zq_Q, ↓zq_R, zq_S, zq_T, zq_U, zq_V, zq_W, zq_X, zq_Y, zq_Z, zq_0, zq_1, zq_2, zq_3, zq_4, zq_5, ↓zq_6, ↓zq_7, ↓zq_8, ↓zq_9, ↓zq_aa, zq_ab, zq_ac, zq_ad, zq_ae, zq_af, zq_ag, ↓zq_ah, ↓zq_ai, ↓zq_aj, zq_ak, ↓zq_al, ↓zq_am, e_op, e_b1, e_b2, hlt, hand, h124, hw]
        rw [he]
        exact hrec
    · unfold e_t132_67
      exact ⟨sum, M, by simp [zq_a, zq_b, zq_c, zq_d, zq_e, zq_f, zq_g, zq_h, zq_i, zq_j, zq_k, zq_l, zq_m, zq_n, zq_o, zq_p, zq_q, zq_r, zq_s, zq_t, zq_u, zq_v, zq_w, zq_x, zq_y, zq_z, zq_A, zq_B, zq_C, zq_D, zq_E, zq_F, zq_G, zq_H, zq_I, zq_J, zq_K, zq_L, ↓zq_M, ↓zq_N, ↓zq_O, ↓zq_P, ↓zq_Q, ↓zq_R, zq_S, zq_T, zq_U, zq_V, zq_W, zq_X, zq_Y, zq_Z, zq_0, zq_1, zq_2, zq_3, zq_4, zq_5, ↓zq_6, ↓zq_7, ↓zq_8, ↓zq_9, ↓zq_aa, zq_ab, zq_ac, zq_ad, zq_ae, zq_af, zq_ag, ↓zq_ah, ↓zq_ai, ↓zq_aj, zq_ak, ↓zq_al, ↓zq_am, e_op, e_b1, e_b2, hlt], a_T64_ok hs, hM, a_fr_rf⟩
theorem c_loss {p c al : Int} {M : EM} (hM : a_M M) (hp : -2147483648 ≤ p ∧ p ≤ 2147483647) (hc : -2147483648 ≤ c ∧ c ≤ 2147483647) : c_OUT a_w160 a_T64 M (E_C 132 [8, p, c, al] M) := by
  have h1 : E_C 132 [8, p, c, al] M = e_tv E_C (E_V 132) e_t132_0 [8, p, c, al, 0, 0, 0, 0, 0, 0] M := by
    unfold E_C
    rw [if_pos (show e_rok 132 [8, p, c, al] = true from decide_eq_true c_this), E_V_eq]
    rfl
  rw [h1]
  unfold e_t132_0
  obtain ⟨r, r1, r2, r3⟩ := c_isPart hM hp
  by_cases q0 : r = 0
  · subst q0
    refine ⟨e_TH, c_thr M, ?_, Or.inr ⟨Or.inl rfl, rfl⟩⟩
    simp [zq_a, zq_b, zq_c, zq_d, zq_e, zq_f, zq_g, zq_h, zq_i, zq_j, zq_k, zq_l, zq_m, zq_n, zq_o, zq_p, zq_q, zq_r, zq_s, zq_t, zq_u, zq_v, zq_w, zq_x, zq_y, zq_z, zq_A, zq_B, zq_C, zq_D, zq_E, zq_F, zq_G, zq_H, zq_I, zq_J, zq_K, zq_L, ↓zq_M, ↓zq_N, ↓zq_O, ↓zq_P, ↓zq_Q, ↓zq_R, zq_S, zq_T, zq_U, zq_V, zq_W, zq_X, zq_Y, zq_Z, zq_0, zq_1, zq_2, zq_3, zq_4, zq_5, ↓zq_6, ↓zq_7, ↓zq_8, ↓zq_9, ↓zq_aa, zq_ab, zq_ac, zq_ad, zq_ae, zq_af, zq_ag, ↓zq_ah, ↓zq_ai, ↓zq_aj, zq_ak, ↓zq_al, ↓zq_am, e_op, e_b1, e_b2, r1, c_thr]
  · by_cases q1 : 0 ≤ c
    · by_cases q2 : 4 ≤ c
      · refine ⟨e_TH, c_thr M, ?_, Or.inr ⟨Or.inl rfl, rfl⟩⟩
        simp [zq_a, zq_b, zq_c, zq_d, zq_e, zq_f, zq_g, zq_h, zq_i, zq_j, zq_k, zq_l, zq_m, zq_n, zq_o, zq_p, zq_q, zq_r, zq_s, zq_t, zq_u, zq_v, zq_w, zq_x, zq_y, zq_z, zq_A, zq_B, zq_C, zq_D, zq_E, zq_F, zq_G, zq_H, zq_I, zq_J, zq_K, zq_L, ↓zq_M, ↓zq_N, ↓zq_O, ↓zq_P, ↓zq_Q, ↓zq_R, zq_S, zq_T, zq_U, zq_V, zq_W, zq_X, zq_Y, zq_Z, zq_0, zq_1, zq_2, zq_3, zq_4, zq_5, ↓zq_6, ↓zq_7, ↓zq_8, ↓zq_9, ↓zq_aa, zq_ab, zq_ac, zq_ad, zq_ae, zq_af, zq_ag, ↓zq_ah, ↓zq_ai, ↓zq_aj, zq_ak, ↓zq_al, ↓zq_am, e_op, e_b1, e_b2, r1, q0, q1, q2, c_thr]
      · generalize ho : e_bit (fun x y => x <<< (y &&& 31)) 1 c = own
        have hor : -2147483648 ≤ own ∧ own ≤ 2147483647 := by rw [← ho]; exact a_bit _ _ _
        by_cases q3 : al = 0
        · obtain ⟨b1, M1, g1, g2, g3⟩ := c_bw (x := e_w (e_w (2 * own) - 1)) hM hp (a_w _)
          obtain ⟨b2, M2, k1, k2, k3⟩ := c_bw (x := e_w (own - 1)) g2 hp (a_w _)
          refine ⟨e_W (b1 - b2), M2, ?_, Or.inl ⟨a_T64_ok (a_W' _), k2, a_fr_tr g3 k3⟩⟩
          simp [zq_a, zq_b, zq_c, zq_d, zq_e, zq_f, zq_g, zq_h, zq_i, zq_j, zq_k, zq_l, zq_m, zq_n, zq_o, zq_p, zq_q, zq_r, zq_s, zq_t, zq_u, zq_v, zq_w, zq_x, zq_y, zq_z, zq_A, zq_B, zq_C, zq_D, zq_E, zq_F, zq_G, zq_H, zq_I, zq_J, zq_K, zq_L, ↓zq_M, ↓zq_N, ↓zq_O, ↓zq_P, ↓zq_Q, ↓zq_R, zq_S, zq_T, zq_U, zq_V, zq_W, zq_X, zq_Y, zq_Z, zq_0, zq_1, zq_2, zq_3, zq_4, zq_5, ↓zq_6, ↓zq_7, ↓zq_8, ↓zq_9, ↓zq_aa, zq_ab, zq_ac, zq_ad, zq_ae, zq_af, zq_ag, ↓zq_ah, ↓zq_ai, ↓zq_aj, zq_ak, ↓zq_al, ↓zq_am, e_op, e_b1, e_b2, r1, q0, q1, q2, q3, ho, g1, k1]
        · obtain ⟨r', M', f1, f2, f3, f4⟩ := c_loss_loop (c := c) (al := al) (own := own) hp 16 0 0 0 0 0 M hM (by decide) (by decide) (by decide) (by decide)
          refine ⟨r', M', ?_, Or.inl ⟨f2, f3, f4⟩⟩
          simp [zq_a, zq_b, zq_c, zq_d, zq_e, zq_f, zq_g, zq_h, zq_i, zq_j, zq_k, zq_l, zq_m, zq_n, zq_o, zq_p, zq_q, zq_r, zq_s, zq_t, zq_u, zq_v, zq_w, zq_x, zq_y, zq_z, zq_A, zq_B, zq_C, zq_D, zq_E, zq_F, zq_G, zq_H, zq_I, zq_J, zq_K, zq_L, ↓zq_M, ↓zq_N, ↓zq_O, ↓zq_P, ↓zq_Q, ↓zq_R, zq_S, zq_T, zq_U, zq_V, zq_W, zq_X, zq_Y, zq_Z, zq_0, zq_1, zq_2, zq_3, zq_4, zq_5, ↓zq_6, ↓zq_7, ↓zq_8, ↓zq_9, ↓zq_aa, zq_ab, zq_ac, zq_ad, zq_ae, zq_af, zq_ag, ↓zq_ah, ↓zq_ai, ↓zq_aj, zq_ak, ↓zq_al, ↓zq_am, e_op, e_b1, e_b2, r1, q0, q1, q2, q3, ho, f1]
    · refine ⟨e_TH, c_thr M, ?_, Or.inr ⟨Or.inl rfl, rfl⟩⟩
      simp [zq_a, zq_b, zq_c, zq_d, zq_e, zq_f, zq_g, zq_h, zq_i, zq_j, zq_k, zq_l, zq_m, zq_n, zq_o, zq_p, zq_q, zq_r, zq_s, zq_t, zq_u, zq_v, zq_w, zq_x, zq_y, zq_z, zq_A, zq_B, zq_C, zq_D, zq_E, zq_F, zq_G, zq_H, zq_I, zq_J, zq_K, zq_L, ↓zq_M, ↓zq_N, ↓zq_O, ↓zq_P, ↓zq_Q, ↓zq_R, zq_S, zq_T, zq_U, zq_V, zq_W, zq_X, zq_Y, zq_Z, zq_0, zq_1, zq_2, zq_3, zq_4, zq_5, ↓zq_6, ↓zq_7, ↓zq_8, ↓zq_9, ↓zq_aa, zq_ab, zq_ac, zq_ad, zq_ae, zq_af, zq_ag, ↓zq_ah, ↓zq_ai, ↓zq_aj, zq_ak, ↓zq_al, ↓zq_am, e_op, e_b1, e_b2, r1, q0, q1, c_thr]
end
