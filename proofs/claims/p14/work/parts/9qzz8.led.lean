/-! led: the two answers -/
def sl_r (P : Int → Int) (b B : Int) : Nat → Int → Int × Int × Int × Int → Int
  | 0, _, _ => -4
  | d + 1, x, z => if z.1 - B ≤ b ∧ B - z.1 ≤ b then x else sl_r P b B d (x + 1) (sk_s P b z)
section AXD
variable {M M1 M2 : EM} {p u n r1 r2 b B : Int}
theorem ax_182 : e_isO 7 ((182 : Nat) : Int) := by decide +kernel
theorem ax_710 (M : EM) : e_gf 710 [8] M = some 182 := p_g 710 8 182 M (by decide +kernel)
/-- the class: steps -/
theorem ax_78 {S : Int → Int} {s : Int} (hb : 1 ≤ b ∧ b ≤ 40) (hB : 0 ≤ B ∧ B ≤ 500) (hS : ∀ u, 0 ≤ u ∧ u ≤ 500 → 0 ≤ S u ∧ S u ≤ 1000) (hn : n ≤ 200) : ∀ (d : Nat) (x5 : Int) (z : Int × Int × Int × Int) (M : EM), sk_ok z → sk_C M 182 b z → M 170 6 = 0 → M 170 2 = B → (∀ u : Nat, u ≤ 500 → M 181 u = S (u : Int)) → n + 1 - x5 = d → 0 ≤ x5 → ∃ M', E_V 116 78 [8, p, u, n, s, x5] M = some (sl_r (fun u => u * S u) b B d x5 z, M') := by
  have is : e_isO 7 (182 : Int) := ax_182
  have g0 : ∀ M, e_gf 448 [182] M = some (M 182 0) := fun M => c_gf is (by decide +kernel)
  have g1 : ∀ M, e_gf 449 [182] M = some (M 182 1) := fun M => c_gf is (by decide +kernel)
  intro d
  induction d with
  | zero =>
    intro x5 z M hz hC h6 h2 h181 hd h0
    refine ⟨M, ?_⟩
    show _ = some (-4, M)
    have q : ¬ x5 ≤ n := by omega
    clear h181 hS hC
    rw [E_V_eq]
    show e_tv E_C (E_V 116) e_t116_78 [8, p, u, n, s, x5] M = _
    unfold e_t116_78
    simp [zq_a, zq_b, zq_c, zq_d, zq_e, zq_f, zq_g, zq_h, zq_i, zq_j, zq_k, zq_l, zq_m, zq_n, zq_o, zq_p, zq_q, zq_r, zq_s, zq_t, zq_u, zq_v, zq_w, zq_x, zq_y, zq_z, zq_A, zq_B, zq_C, zq_D, zq_E, zq_F, zq_G, zq_H, zq_I, zq_J, zq_K, zq_L, ↓zq_M, ↓zq_N, ↓zq_O, ↓zq_P, ↓zq_Q, ↓zq_R, zq_S, zq_T, zq_U, zq_V, zq_W, zq_X, zq_Y, zq_Z, zq_0, zq_1, zq_2, zq_3, zq_4, zq_5, ↓zq_6, ↓zq_7, ↓zq_8, ↓zq_9, ↓zq_aa, zq_ab, zq_ac, zq_ad, zq_ae, zq_af, zq_ag, ↓zq_ah, ↓zq_ai, ↓zq_aj, zq_ak, ↓zq_al, ↓zq_am, e_b1, e_b2, x_o1, x_o2, q]
  | succ d ih =>
    intro x5 z M hz hC h6 h2 h181 hd h0
    have q : x5 ≤ n := by omega
    have hz1 := hz.1
    obtain ⟨dl, hdl⟩ : ∃ dl, z.1 - B = dl := ⟨_, rfl⟩
    have wd : e_w (z.1 - B) = dl := by rw [hdl]; exact a_w_id (by omega) (by omega)
    obtain ⟨ab, hab⟩ : ∃ ab, (if 0 ≤ dl then dl else e_w (0 - dl)) = ab := ⟨_, rfl⟩
    have hab' : ab = dl ∧ 0 ≤ dl ∨ ab = -dl ∧ dl < 0 := by
      rcases Int.lt_or_le dl 0 with c | c
      · rw [if_neg (by omega), show 0 - dl = -dl by omega, a_w_id (by omega) (by omega)] at hab
        exact Or.inr ⟨hab.symm, c⟩
      · rw [if_pos c] at hab
        exact Or.inl ⟨hab.symm, c⟩
    have e36 : e_b1 36 dl = some ab := by rw [← hab]; rfl
    show ∃ M', _ = some (if z.1 - B ≤ b ∧ B - z.1 ≤ b then x5 else sl_r (fun u => u * S u) b B d (x5 + 1) (sk_s (fun u => u * S u) b z), M')
    obtain ⟨c0, c1, cr⟩ := id hC
    by_cases c : z.1 - B ≤ b ∧ B - z.1 ≤ b
    · rw [if_pos c]
      have c' : ab ≤ b := by omega
      refine ⟨M, ?_⟩
      clear h181 hS hC ih cr hz hab hab' hdl hz1 c
      generalize z.1 = zz at *
      rw [E_V_eq]
      show e_tv E_C (E_V 116) e_t116_78 [8, p, u, n, s, x5] M = _
      unfold e_t116_78
      simp [zq_a, zq_b, zq_c, zq_d, zq_e, zq_f, zq_g, zq_h, zq_i, zq_j, zq_k, zq_l, zq_m, zq_n, zq_o, zq_p, zq_q, zq_r, zq_s, zq_t, zq_u, zq_v, zq_w, zq_x, zq_y, zq_z, zq_A, zq_B, zq_C, zq_D, zq_E, zq_F, zq_G, zq_H, zq_I, zq_J, zq_K, zq_L, ↓zq_M, ↓zq_N, ↓zq_O, ↓zq_P, ↓zq_Q, ↓zq_R, zq_S, zq_T, zq_U, zq_V, zq_W, zq_X, zq_Y, zq_Z, zq_0, zq_1, zq_2, zq_3, zq_4, zq_5, ↓zq_6, ↓zq_7, ↓zq_8, ↓zq_9, ↓zq_aa, zq_ab, zq_ac, zq_ad, zq_ae, zq_af, zq_ag, ↓zq_ah, ↓zq_ai, ↓zq_aj, zq_ak, ↓zq_al, ↓zq_am, e_b2, x_o1, x_o2, e36, ax_710, ax_bench, bx_F2, g0, g1, c0, c1, h2, wd, q, c']
    · rw [if_neg c]
      have c' : ¬ ab ≤ b := by omega
      have w : e_w (x5 + 1) = x5 + 1 := a_w_id (by omega) (by omega)
      obtain ⟨M1, k1, t1, t2⟩ := ax_82 (s := 182) (P := fun u => u * S u) is hz hb hC
      obtain ⟨M', k⟩ := ih (x5 + 1) (sk_s (fun u => u * S u) b z) M1 (sk_ok_s hz) t1 ((t2 _ _ (by decide)).trans h6) ((t2 _ _ (by decide)).trans h2) (fun u hu => (t2 _ _ (by decide)).trans (h181 u hu)) (by omega) (by omega)
      refine ⟨M', ?_⟩
      rw [← k]
      obtain ⟨uu, huu⟩ : ∃ uu : Nat, z.1 = uu := ⟨z.1.toNat, by omega⟩
      have e181 : M 181 uu = S z.1 := by rw [h181 uu (by omega), huu]
      have sb := hS z.1 hz1
      have pw := bx_20 (u := z.1) (k := uu) h6 huu (by omega) (by rw [e181]; exact sb)
      rw [e181] at pw
      have k1 : E_C 82 [182, z.1 * S z.1] M = some (0, M1) := k1
      clear h181 hS ih k e181 huu hC cr hab hab' hdl c hz1 hz t1 t2 sb
      generalize S z.1 = ss at *
      generalize z.1 = zz at *
      rw [E_V_eq]
      show e_tv E_C (E_V 116) e_t116_78 [8, p, u, n, s, x5] M = _
      unfold e_t116_78
      simp [zq_a, zq_b, zq_c, zq_d, zq_e, zq_f, zq_g, zq_h, zq_i, zq_j, zq_k, zq_l, zq_m, zq_n, zq_o, zq_p, zq_q, zq_r, zq_s, zq_t, zq_u, zq_v, zq_w, zq_x, zq_y, zq_z, zq_A, zq_B, zq_C, zq_D, zq_E, zq_F, zq_G, zq_H, zq_I, zq_J, zq_K, zq_L, ↓zq_M, ↓zq_N, ↓zq_O, ↓zq_P, ↓zq_Q, ↓zq_R, zq_S, zq_T, zq_U, zq_V, zq_W, zq_X, zq_Y, zq_Z, zq_0, zq_1, zq_2, zq_3, zq_4, zq_5, ↓zq_6, ↓zq_7, ↓zq_8, ↓zq_9, ↓zq_aa, zq_ab, zq_ac, zq_ad, zq_ae, zq_af, zq_ag, ↓zq_ah, ↓zq_ai, ↓zq_aj, zq_ak, ↓zq_al, ↓zq_am, e_b2, x_o1, x_o2, e36, ax_710, ax_bench, bx_F2, g0, g1, c0, c1, h2, wd, q, c', w, pw, k1]
/-- the reference: steps -/
theorem rx_88 {S : Int → Int} (hb : 1 ≤ b ∧ b ≤ 40) (hB : 0 ≤ B ∧ B ≤ 500) (hS : ∀ u, 0 ≤ u ∧ u ≤ 500 → 0 ≤ S u ∧ S u ≤ 1000) (hn : n ≤ 200) : ∀ (d : Nat) (x6 : Int) (z : Int × Int × Int × Int) (M : EM), sk_ok z → sk_R M z → (∀ u : Nat, u ≤ 500 → M 205 u = S (u : Int)) → n + 1 - x6 = d → 0 ≤ x6 → ∃ M', E_V 217 88 [192, p, u, n, b, B, x6] M = some (sl_r (fun u => u * S u) b B d x6 z, M') := by
  intro d
  induction d with
  | zero =>
    intro x6 z M hz hR h205 hd h0
    refine ⟨M, ?_⟩
    show _ = some (-4, M)
    have q : ¬ x6 ≤ n := by omega
    clear h205 hS hR
    rw [E_V_eq]
    show e_tv E_C (E_V 217) e_t217_88 [192, p, u, n, b, B, x6] M = _
    unfold e_t217_88
    simp [zq_a, zq_b, zq_c, zq_d, zq_e, zq_f, zq_g, zq_h, zq_i, zq_j, zq_k, zq_l, zq_m, zq_n, zq_o, zq_p, zq_q, zq_r, zq_s, zq_t, zq_u, zq_v, zq_w, zq_x, zq_y, zq_z, zq_A, zq_B, zq_C, zq_D, zq_E, zq_F, zq_G, zq_H, zq_I, zq_J, zq_K, zq_L, ↓zq_M, ↓zq_N, ↓zq_O, ↓zq_P, ↓zq_Q, ↓zq_R, zq_S, zq_T, zq_U, zq_V, zq_W, zq_X, zq_Y, zq_Z, zq_0, zq_1, zq_2, zq_3, zq_4, zq_5, ↓zq_6, ↓zq_7, ↓zq_8, ↓zq_9, ↓zq_aa, zq_ab, zq_ac, zq_ad, zq_ae, zq_af, zq_ag, ↓zq_ah, ↓zq_ai, ↓zq_aj, zq_ak, ↓zq_al, ↓zq_am, e_b1, e_b2, x_o1, x_o2, q]
  | succ d ih =>
    intro x6 z M hz hR h205 hd h0
    have q : x6 ≤ n := by omega
    have hz1 := hz.1
    obtain ⟨dl, hdl⟩ : ∃ dl, z.1 - B = dl := ⟨_, rfl⟩
    obtain ⟨dm, hdm⟩ : ∃ dm, B - z.1 = dm := ⟨_, rfl⟩
    have wd : e_w (z.1 - B) = dl := by rw [hdl]; exact a_w_id (by omega) (by omega)
    have wm : e_w (B - z.1) = dm := by rw [hdm]; exact a_w_id (by omega) (by omega)
    show ∃ M', _ = some (if z.1 - B ≤ b ∧ B - z.1 ≤ b then x6 else sl_r (fun u => u * S u) b B d (x6 + 1) (sk_s (fun u => u * S u) b z), M')
    rw [hdl, hdm]
    obtain ⟨c0, -⟩ := id hR
    have c0 : M 192 27 = z.1 := c0
    by_cases c : dl ≤ b ∧ dm ≤ b
    · rw [if_pos c]
      obtain ⟨ca, cb⟩ := c
      have ca' : ¬ b < dl := by omega
      have cb' : ¬ b < dm := by omega
      refine ⟨M, ?_⟩
      clear h205 hS hR ih hz hdl hdm hz1
      generalize z.1 = zz at *
      rw [E_V_eq]
      show e_tv E_C (E_V 217) e_t217_88 [192, p, u, n, b, B, x6] M = _
      unfold e_t217_88
      simp [zq_a, zq_b, zq_c, zq_d, zq_e, zq_f, zq_g, zq_h, zq_i, zq_j, zq_k, zq_l, zq_m, zq_n, zq_o, zq_p, zq_q, zq_r, zq_s, zq_t, zq_u, zq_v, zq_w, zq_x, zq_y, zq_z, zq_A, zq_B, zq_C, zq_D, zq_E, zq_F, zq_G, zq_H, zq_I, zq_J, zq_K, zq_L, ↓zq_M, ↓zq_N, ↓zq_O, ↓zq_P, ↓zq_Q, ↓zq_R, zq_S, zq_T, zq_U, zq_V, zq_W, zq_X, zq_Y, zq_Z, zq_0, zq_1, zq_2, zq_3, zq_4, zq_5, ↓zq_6, ↓zq_7, ↓zq_8, ↓zq_9, ↓zq_aa, zq_ab, zq_ac, zq_ad, zq_ae, zq_af, zq_ag, ↓zq_ah, ↓zq_ai, ↓zq_aj, zq_ak, ↓zq_al, ↓zq_am, e_b1, e_b2, x_o1, x_o2, r_F9, r_F10, r_F13, r_F14, r_F15, r_F16, r_F17, r_F18, r_F20, r_F21, r_F22, r_F23, r_F24, r_F27, r_F28, r_F29, r_F30, r_F33, r_F34, r_F35, r_P9, r_P10, r_P13, r_P14, r_P15, r_P16, r_P17, r_P18, r_P20, r_P21, r_P22, r_P23, r_P24, r_P27, r_P28, r_P29, r_P30, r_P33, r_P34, r_P35, r_O0, r_O1, r_O2, r_O3, r_O4, r_O5, r_O6, r_O7, r_O8, r_O11, r_O12, r_O19, r_O25, r_O26, r_O31, r_O32, r_O36, r_O37, r_O38, r_O39, c0, wd, wm, q, ca, cb, ca', cb']
    · rw [if_neg c]
      have w : e_w (x6 + 1) = x6 + 1 := a_w_id (by omega) (by omega)
      obtain ⟨uu, huu⟩ : ∃ uu : Nat, z.1 = uu := ⟨z.1.toNat, by omega⟩
      have e205 : M 205 z.1.toNat = S z.1 := by rw [show z.1.toNat = uu by omega, h205 uu (by omega), huu]
      obtain ⟨M1, k1, t1, t2⟩ := rx_215 (P := fun u => u * S u) hz hb hR e205 (hS z.1 hz.1) rfl
      obtain ⟨M', k⟩ := ih (x6 + 1) (sk_s (fun u => u * S u) b z) M1 (sk_ok_s hz) t1 (fun u hu => (t2 _ _ (by omega)).trans (h205 u hu)) (by omega) (by omega)
      refine ⟨M', ?_⟩
      rw [← k]
      have cc : b < dl ∨ (¬ b < dl ∧ b < dm) := by omega
      clear h205 hS ih k e205 huu hR hdl hdm c hz1 hz t1 t2
      generalize z.1 = zz at *
      rcases cc with cc | ⟨cc, cd⟩
      · have ce : ¬ dl ≤ b := by omega
        rw [E_V_eq]
        show e_tv E_C (E_V 217) e_t217_88 [192, p, u, n, b, B, x6] M = _
        unfold e_t217_88
        simp [zq_a, zq_b, zq_c, zq_d, zq_e, zq_f, zq_g, zq_h, zq_i, zq_j, zq_k, zq_l, zq_m, zq_n, zq_o, zq_p, zq_q, zq_r, zq_s, zq_t, zq_u, zq_v, zq_w, zq_x, zq_y, zq_z, zq_A, zq_B, zq_C, zq_D, zq_E, zq_F, zq_G, zq_H, zq_I, zq_J, zq_K, zq_L, ↓zq_M, ↓zq_N, ↓zq_O, ↓zq_P, ↓zq_Q, ↓zq_R, zq_S, zq_T, zq_U, zq_V, zq_W, zq_X, zq_Y, zq_Z, zq_0, zq_1, zq_2, zq_3, zq_4, zq_5, ↓zq_6, ↓zq_7, ↓zq_8, ↓zq_9, ↓zq_aa, zq_ab, zq_ac, zq_ad, zq_ae, zq_af, zq_ag, ↓zq_ah, ↓zq_ai, ↓zq_aj, zq_ak, ↓zq_al, ↓zq_am, e_b1, e_b2, x_o1, x_o2, r_F9, r_F10, r_F13, r_F14, r_F15, r_F16, r_F17, r_F18, r_F20, r_F21, r_F22, r_F23, r_F24, r_F27, r_F28, r_F29, r_F30, r_F33, r_F34, r_F35, r_P9, r_P10, r_P13, r_P14, r_P15, r_P16, r_P17, r_P18, r_P20, r_P21, r_P22, r_P23, r_P24, r_P27, r_P28, r_P29, r_P30, r_P33, r_P34, r_P35, r_O0, r_O1, r_O2, r_O3, r_O4, r_O5, r_O6, r_O7, r_O8, r_O11, r_O12, r_O19, r_O25, r_O26, r_O31, r_O32, r_O36, r_O37, r_O38, r_O39, c0, wd, wm, q, cc, ce, w, k1]
      · have ce : dl ≤ b := by omega
        have cf : ¬ dm ≤ b := by omega
        rw [E_V_eq]
        show e_tv E_C (E_V 217) e_t217_88 [192, p, u, n, b, B, x6] M = _
        unfold e_t217_88
        simp [zq_a, zq_b, zq_c, zq_d, zq_e, zq_f, zq_g, zq_h, zq_i, zq_j, zq_k, zq_l, zq_m, zq_n, zq_o, zq_p, zq_q, zq_r, zq_s, zq_t, zq_u, zq_v, zq_w, zq_x, zq_y, zq_z, zq_A, zq_B, zq_C, zq_D, zq_E, zq_F, zq_G, zq_H, zq_I, zq_J, zq_K, zq_L, ↓zq_M, ↓zq_N, ↓zq_O, ↓zq_P, ↓zq_Q, ↓zq_R, zq_S, zq_T, zq_U, zq_V, zq_W, zq_X, zq_Y, zq_Z, zq_0, zq_1, zq_2, zq_3, zq_4, zq_5, ↓zq_6, ↓zq_7, ↓zq_8, ↓zq_9, ↓zq_aa, zq_ab, zq_ac, zq_ad, zq_ae, zq_af, zq_ag, ↓zq_ah, ↓zq_ai, ↓zq_aj, zq_ak, ↓zq_al, ↓zq_am, e_b1, e_b2, x_o1, x_o2, r_F9, r_F10, r_F13, r_F14, r_F15, r_F16, r_F17, r_F18, r_F20, r_F21, r_F22, r_F23, r_F24, r_F27, r_F28, r_F29, r_F30, r_F33, r_F34, r_F35, r_P9, r_P10, r_P13, r_P14, r_P15, r_P16, r_P17, r_P18, r_P20, r_P21, r_P22, r_P23, r_P24, r_P27, r_P28, r_P29, r_P30, r_P33, r_P34, r_P35, r_O0, r_O1, r_O2, r_O3, r_O4, r_O5, r_O6, r_O7, r_O8, r_O11, r_O12, r_O19, r_O25, r_O26, r_O31, r_O32, r_O36, r_O37, r_O38, r_O39, c0, wd, wm, q, cc, cd, ce, cf, w, k1]
/-- class: the whole call -/
theorem ax_116s : E_C 116 [8, p, u, n] M = e_tv E_C (E_V 116) e_t116_0 [8, p, u, n, 0, 0] M := r_ent (u := 116) (as := [8, p, u, n]) (M := M) (decide_eq_true c_this)
def ax_Lq (u n : Int) : Prop := (0 ≤ u ∧ u ≤ 500) ∧ 0 ≤ n ∧ n ≤ 200
theorem ax_116a {i : Int} (ip : E_C 149 [8, p] M = some (i, M)) (h : i = 0 ∨ (i = 1 ∧ ¬ ax_Lq u n)) : E_C 116 [8, p, u, n] M = some (-1, M) := by
  rw [ax_116s]
  unfold e_t116_0
  rcases h with h | ⟨h, hb⟩
  · subst h
    simp [zq_a, zq_b, zq_c, zq_d, zq_e, zq_f, zq_g, zq_h, zq_i, zq_j, zq_k, zq_l, zq_m, zq_n, zq_o, zq_p, zq_q, zq_r, zq_s, zq_t, zq_u, zq_v, zq_w, zq_x, zq_y, zq_z, zq_A, zq_B, zq_C, zq_D, zq_E, zq_F, zq_G, zq_H, zq_I, zq_J, zq_K, zq_L, ↓zq_M, ↓zq_N, ↓zq_O, ↓zq_P, ↓zq_Q, ↓zq_R, zq_S, zq_T, zq_U, zq_V, zq_W, zq_X, zq_Y, zq_Z, zq_0, zq_1, zq_2, zq_3, zq_4, zq_5, ↓zq_6, ↓zq_7, ↓zq_8, ↓zq_9, ↓zq_aa, zq_ab, zq_ac, zq_ad, zq_ae, zq_af, zq_ag, ↓zq_ah, ↓zq_ai, ↓zq_aj, zq_ak, ↓zq_al, ↓zq_am, e_b1, e_b2, x_o1, x_o2, ip]
  · subst h
    unfold ax_Lq at hb
    rcases x_le 0 u with ⟨c0, c0_n⟩ | ⟨c0, c0_n⟩
    · rcases x_le u 500 with ⟨c1, c1_n⟩ | ⟨c1, c1_n⟩
      · rcases x_le 0 n with ⟨c2, c2_n⟩ | ⟨c2, c2_n⟩
        · have c3 : 200 < n := by omega
          simp [zq_a, zq_b, zq_c, zq_d, zq_e, zq_f, zq_g, zq_h, zq_i, zq_j, zq_k, zq_l, zq_m, zq_n, zq_o, zq_p, zq_q, zq_r, zq_s, zq_t, zq_u, zq_v, zq_w, zq_x, zq_y, zq_z, zq_A, zq_B, zq_C, zq_D, zq_E, zq_F, zq_G, zq_H, zq_I, zq_J, zq_K, zq_L, ↓zq_M, ↓zq_N, ↓zq_O, ↓zq_P, ↓zq_Q, ↓zq_R, zq_S, zq_T, zq_U, zq_V, zq_W, zq_X, zq_Y, zq_Z, zq_0, zq_1, zq_2, zq_3, zq_4, zq_5, ↓zq_6, ↓zq_7, ↓zq_8, ↓zq_9, ↓zq_aa, zq_ab, zq_ac, zq_ad, zq_ae, zq_af, zq_ag, ↓zq_ah, ↓zq_ai, ↓zq_aj, zq_ak, ↓zq_al, ↓zq_am, e_b1, e_b2, x_o1, x_o2, ip, c0, c0_n, c1, c1_n, c2, c2_n, c3]
        · simp [zq_a, zq_b, zq_c, zq_d, zq_e, zq_f, zq_g, zq_h, zq_i, zq_j, zq_k, zq_l, zq_m, zq_n, zq_o, zq_p, zq_q, zq_r, zq_s, zq_t, zq_u, zq_v, zq_w, zq_x, zq_y, zq_z, zq_A, zq_B, zq_C, zq_D, zq_E, zq_F, zq_G, zq_H, zq_I, zq_J, zq_K, zq_L, ↓zq_M, ↓zq_N, ↓zq_O, ↓zq_P, ↓zq_Q, ↓zq_R, zq_S, zq_T, zq_U, zq_V, zq_W, zq_X, zq_Y, zq_Z, zq_0, zq_1, zq_2, zq_3, zq_4, zq_5, ↓zq_6, ↓zq_7, ↓zq_8, ↓zq_9, ↓zq_aa, zq_ab, zq_ac, zq_ad, zq_ae, zq_af, zq_ag, ↓zq_ah, ↓zq_ai, ↓zq_aj, zq_ak, ↓zq_al, ↓zq_am, e_b1, e_b2, x_o1, x_o2, ip, c0, c0_n, c1, c1_n, c2, c2_n]
      · simp [zq_a, zq_b, zq_c, zq_d, zq_e, zq_f, zq_g, zq_h, zq_i, zq_j, zq_k, zq_l, zq_m, zq_n, zq_o, zq_p, zq_q, zq_r, zq_s, zq_t, zq_u, zq_v, zq_w, zq_x, zq_y, zq_z, zq_A, zq_B, zq_C, zq_D, zq_E, zq_F, zq_G, zq_H, zq_I, zq_J, zq_K, zq_L, ↓zq_M, ↓zq_N, ↓zq_O, ↓zq_P, ↓zq_Q, ↓zq_R, zq_S, zq_T, zq_U, zq_V, zq_W, zq_X, zq_Y, zq_Z, zq_0, zq_1, zq_2, zq_3, zq_4, zq_5, ↓zq_6, ↓zq_7, ↓zq_8, ↓zq_9, ↓zq_aa, zq_ab, zq_ac, zq_ad, zq_ae, zq_af, zq_ag, ↓zq_ah, ↓zq_ai, ↓zq_aj, zq_ak, ↓zq_al, ↓zq_am, e_b1, e_b2, x_o1, x_o2, ip, c0, c0_n, c1, c1_n]
    · simp [zq_a, zq_b, zq_c, zq_d, zq_e, zq_f, zq_g, zq_h, zq_i, zq_j, zq_k, zq_l, zq_m, zq_n, zq_o, zq_p, zq_q, zq_r, zq_s, zq_t, zq_u, zq_v, zq_w, zq_x, zq_y, zq_z, zq_A, zq_B, zq_C, zq_D, zq_E, zq_F, zq_G, zq_H, zq_I, zq_J, zq_K, zq_L, ↓zq_M, ↓zq_N, ↓zq_O, ↓zq_P, ↓zq_Q, ↓zq_R, zq_S, zq_T, zq_U, zq_V, zq_W, zq_X, zq_Y, zq_Z, zq_0, zq_1, zq_2, zq_3, zq_4, zq_5, ↓zq_6, ↓zq_7, ↓zq_8, ↓zq_9, ↓zq_aa, zq_ab, zq_ac, zq_ad, zq_ae, zq_af, zq_ag, ↓zq_ah, ↓zq_ai, ↓zq_aj, zq_ak, ↓zq_al, ↓zq_am, e_b1, e_b2, x_o1, x_o2, ip, c0, c0_n]
theorem ax_116b (ip : E_C 149 [8, p] M = some (1, M)) (h : ax_Lq u n) (k : E_C 155 [8, p] M = some (-1, M)) : E_C 116 [8, p, u, n] M = some (-3, M) := by
  obtain ⟨⟨d0, d1⟩, d2, d3⟩ := h
  have d4 : ¬ 200 < n := by omega
  rw [ax_116s]
  unfold e_t116_0
  simp [zq_a, zq_b, zq_c, zq_d, zq_e, zq_f, zq_g, zq_h, zq_i, zq_j, zq_k, zq_l, zq_m, zq_n, zq_o, zq_p, zq_q, zq_r, zq_s, zq_t, zq_u, zq_v, zq_w, zq_x, zq_y, zq_z, zq_A, zq_B, zq_C, zq_D, zq_E, zq_F, zq_G, zq_H, zq_I, zq_J, zq_K, zq_L, ↓zq_M, ↓zq_N, ↓zq_O, ↓zq_P, ↓zq_Q, ↓zq_R, zq_S, zq_T, zq_U, zq_V, zq_W, zq_X, zq_Y, zq_Z, zq_0, zq_1, zq_2, zq_3, zq_4, zq_5, ↓zq_6, ↓zq_7, ↓zq_8, ↓zq_9, ↓zq_aa, zq_ab, zq_ac, zq_ad, zq_ae, zq_af, zq_ag, ↓zq_ah, ↓zq_ai, ↓zq_aj, zq_ak, ↓zq_al, ↓zq_am, e_b1, e_b2, x_o1, x_o2, ip, k, d0, d1, d2, d3, d4]
theorem ax_116c {s : Nat} {N M' : EM} {r : EO} (ip : E_C 149 [8, p] M = some (1, M)) (h : ax_Lq u n) (hs : 37 ≤ s ∧ s < 77) (k : E_C 155 [8, p] M = some ((s : Int), M)) (k1 : E_C 1 [170, p] M = some (0, N)) (k2 : E_C 21 [170] N = some (0, M')) (hb : M' s 1 = b) (k3 : E_V 116 78 [8, p, u, n, (s : Int), 0] (ax_b M' 182 u b) = r) : E_C 116 [8, p, u, n] M = r := by
  obtain ⟨⟨d0, d1⟩, d2, d3⟩ := h
  have is : e_isO 7 (s : Int) := p_is7 (by omega)
  have g1 : ∀ M, e_gf 449 [(s : Int)] M = some (M s 1) := fun M => c_gf is (by decide +kernel)
  have d4 : ¬ 200 < n := by omega
  have n1 : ¬ ((s : Int) = -1) := by omega
  have bg : E_C 81 [182, u, b] M' = some (0, ax_b M' 182 u b) := ax_81 ax_182 u b M'
  rw [ax_116s]
  unfold e_t116_0
  simp [zq_a, zq_b, zq_c, zq_d, zq_e, zq_f, zq_g, zq_h, zq_i, zq_j, zq_k, zq_l, zq_m, zq_n, zq_o, zq_p, zq_q, zq_r, zq_s, zq_t, zq_u, zq_v, zq_w, zq_x, zq_y, zq_z, zq_A, zq_B, zq_C, zq_D, zq_E, zq_F, zq_G, zq_H, zq_I, zq_J, zq_K, zq_L, ↓zq_M, ↓zq_N, ↓zq_O, ↓zq_P, ↓zq_Q, ↓zq_R, zq_S, zq_T, zq_U, zq_V, zq_W, zq_X, zq_Y, zq_Z, zq_0, zq_1, zq_2, zq_3, zq_4, zq_5, ↓zq_6, ↓zq_7, ↓zq_8, ↓zq_9, ↓zq_aa, zq_ab, zq_ac, zq_ad, zq_ae, zq_af, zq_ag, ↓zq_ah, ↓zq_ai, ↓zq_aj, zq_ak, ↓zq_al, ↓zq_am, e_b1, e_b2, x_o1, x_o2, ax_bench, ax_710, ip, k, d0, d1, d2, d3, d4, n1, k1, k2, g1, hb, bg, k3]
theorem ax_217a {i : Int} (ip : E_C 169 [192, p] M = some (i, M)) (h : i = 0 ∨ (i = 1 ∧ ¬ ax_Lq u n)) : E_C 217 [192, p, u, n] M = some (-1, M) := by
  rcases h with h | ⟨h, hb⟩
  · subst h
    rw [r_ent (show e_rok 217 [192, p, u, n] = true from decide_eq_true r_ref)]
    show e_tv E_C (E_V 217) e_t217_0 [192, p, u, n, 0, 0, 0] M = _
    unfold e_t217_0
    simp [zq_a, zq_b, zq_c, zq_d, zq_e, zq_f, zq_g, zq_h, zq_i, zq_j, zq_k, zq_l, zq_m, zq_n, zq_o, zq_p, zq_q, zq_r, zq_s, zq_t, zq_u, zq_v, zq_w, zq_x, zq_y, zq_z, zq_A, zq_B, zq_C, zq_D, zq_E, zq_F, zq_G, zq_H, zq_I, zq_J, zq_K, zq_L, ↓zq_M, ↓zq_N, ↓zq_O, ↓zq_P, ↓zq_Q, ↓zq_R, zq_S, zq_T, zq_U, zq_V, zq_W, zq_X, zq_Y, zq_Z, zq_0, zq_1, zq_2, zq_3, zq_4, zq_5, ↓zq_6, ↓zq_7, ↓zq_8, ↓zq_9, ↓zq_aa, zq_ab, zq_ac, zq_ad, zq_ae, zq_af, zq_ag, ↓zq_ah, ↓zq_ai, ↓zq_aj, zq_ak, ↓zq_al, ↓zq_am, e_b1, e_b2, x_o1, x_o2, ip]
  · subst h
    unfold ax_Lq at hb
    by_cases c : 0 ≤ u ∧ u ≤ 500
    · have i1 := r_in1 (M := M) c
      have i2 := r_in0 (M := M) (x := n) (lo := 0) (hi := 200) (by omega)
      rw [r_ent (show e_rok 217 [192, p, u, n] = true from decide_eq_true r_ref)]
      show e_tv E_C (E_V 217) e_t217_0 [192, p, u, n, 0, 0, 0] M = _
      unfold e_t217_0
      simp [zq_a, zq_b, zq_c, zq_d, zq_e, zq_f, zq_g, zq_h, zq_i, zq_j, zq_k, zq_l, zq_m, zq_n, zq_o, zq_p, zq_q, zq_r, zq_s, zq_t, zq_u, zq_v, zq_w, zq_x, zq_y, zq_z, zq_A, zq_B, zq_C, zq_D, zq_E, zq_F, zq_G, zq_H, zq_I, zq_J, zq_K, zq_L, ↓zq_M, ↓zq_N, ↓zq_O, ↓zq_P, ↓zq_Q, ↓zq_R, zq_S, zq_T, zq_U, zq_V, zq_W, zq_X, zq_Y, zq_Z, zq_0, zq_1, zq_2, zq_3, zq_4, zq_5, ↓zq_6, ↓zq_7, ↓zq_8, ↓zq_9, ↓zq_aa, zq_ab, zq_ac, zq_ad, zq_ae, zq_af, zq_ag, ↓zq_ah, ↓zq_ai, ↓zq_aj, zq_ak, ↓zq_al, ↓zq_am, e_b1, e_b2, x_o1, x_o2, ip, i1, i2]
    · have i1 := r_in0 (M := M) c
      rw [r_ent (show e_rok 217 [192, p, u, n] = true from decide_eq_true r_ref)]
      show e_tv E_C (E_V 217) e_t217_0 [192, p, u, n, 0, 0, 0] M = _
      unfold e_t217_0
      simp [zq_a, zq_b, zq_c, zq_d, zq_e, zq_f, zq_g, zq_h, zq_i, zq_j, zq_k, zq_l, zq_m, zq_n, zq_o, zq_p, zq_q, zq_r, zq_s, zq_t, zq_u, zq_v, zq_w, zq_x, zq_y, zq_z, zq_A, zq_B, zq_C, zq_D, zq_E, zq_F, zq_G, zq_H, zq_I, zq_J, zq_K, zq_L, ↓zq_M, ↓zq_N, ↓zq_O, ↓zq_P, ↓zq_Q, ↓zq_R, zq_S, zq_T, zq_U, zq_V, zq_W, zq_X, zq_Y, zq_Z, zq_0, zq_1, zq_2, zq_3, zq_4, zq_5, ↓zq_6, ↓zq_7, ↓zq_8, ↓zq_9, ↓zq_aa, zq_ab, zq_ac, zq_ad, zq_ae, zq_af, zq_ag, ↓zq_ah, ↓zq_ai, ↓zq_aj, zq_ak, ↓zq_al, ↓zq_am, e_b1, e_b2, x_o1, x_o2, ip, i1]
theorem ax_217b (ip : E_C 169 [192, p] M = some (1, M)) (h : ax_Lq u n) (kk : E_C 170 [192, p] M = some (r_G M (28 * p), M)) (k3 : r_G M (28 * p) ≠ 3) : E_C 217 [192, p, u, n] M = some (-3, M) := by
  have i1 := r_in1 (M := M) h.1
  have i2 := r_in1 (M := M) h.2
  rw [r_ent (show e_rok 217 [192, p, u, n] = true from decide_eq_true r_ref)]
  show e_tv E_C (E_V 217) e_t217_0 [192, p, u, n, 0, 0, 0] M = _
  unfold e_t217_0
  simp [zq_a, zq_b, zq_c, zq_d, zq_e, zq_f, zq_g, zq_h, zq_i, zq_j, zq_k, zq_l, zq_m, zq_n, zq_o, zq_p, zq_q, zq_r, zq_s, zq_t, zq_u, zq_v, zq_w, zq_x, zq_y, zq_z, zq_A, zq_B, zq_C, zq_D, zq_E, zq_F, zq_G, zq_H, zq_I, zq_J, zq_K, zq_L, ↓zq_M, ↓zq_N, ↓zq_O, ↓zq_P, ↓zq_Q, ↓zq_R, zq_S, zq_T, zq_U, zq_V, zq_W, zq_X, zq_Y, zq_Z, zq_0, zq_1, zq_2, zq_3, zq_4, zq_5, ↓zq_6, ↓zq_7, ↓zq_8, ↓zq_9, ↓zq_aa, zq_ab, zq_ac, zq_ad, zq_ae, zq_af, zq_ag, ↓zq_ah, ↓zq_ai, ↓zq_aj, zq_ak, ↓zq_al, ↓zq_am, e_b1, e_b2, x_o1, x_o2, ip, i1, i2, kk, k3]
def ax_q1 (M : EM) (u : Int) : EM := e_up (e_up (e_up M 192 27 u) 192 28 1) 192 30 0
theorem ax_217c {g : Int → Int} {M' : EM} {r : EO} (hG : r_G M = g) (hp : 0 ≤ p ∧ p < 40) (ip : E_C 169 [192, p] M = some (1, M)) (h : ax_Lq u n) (kk : E_C 170 [192, p] M = some (r_G M (28 * p), M)) (k3 : g (28 * p) = 3) (k1 : E_C 203 [192, p] M = some (0, M')) (hG' : r_G M' = g) (kb : E_C 208 [192] M' = some (B, M')) (hb : g (28 * p + 5) = b) (k4 : E_V 217 88 [192, p, u, n, b, B, 0] (ax_q1 M' u) = r) : E_C 217 [192, p, u, n] M = r := by
  have i1 := r_in1 (M := M) h.1
  have i2 := r_in1 (M := M) h.2
  rw [hG, k3] at kk
  have w1 : e_w (28 * p) = 28 * p := a_w_id (by omega) (by omega)
  have w2 : e_w (28 * p + 5) = 28 * p + 5 := a_w_id (by omega) (by omega)
  have l0 : e_op 60 [193, 28 * p + 5] M' = some b := (r_rd (by omega) (by omega)).trans (by rw [hG', hb])
  unfold ax_q1 at k4
  rw [r_ent (show e_rok 217 [192, p, u, n] = true from decide_eq_true r_ref)]
  show e_tv E_C (E_V 217) e_t217_0 [192, p, u, n, 0, 0, 0] M = _
  unfold e_t217_0
  simp [zq_a, zq_b, zq_c, zq_d, zq_e, zq_f, zq_g, zq_h, zq_i, zq_j, zq_k, zq_l, zq_m, zq_n, zq_o, zq_p, zq_q, zq_r, zq_s, zq_t, zq_u, zq_v, zq_w, zq_x, zq_y, zq_z, zq_A, zq_B, zq_C, zq_D, zq_E, zq_F, zq_G, zq_H, zq_I, zq_J, zq_K, zq_L, ↓zq_M, ↓zq_N, ↓zq_O, ↓zq_P, ↓zq_Q, ↓zq_R, zq_S, zq_T, zq_U, zq_V, zq_W, zq_X, zq_Y, zq_Z, zq_0, zq_1, zq_2, zq_3, zq_4, zq_5, ↓zq_6, ↓zq_7, ↓zq_8, ↓zq_9, ↓zq_aa, zq_ab, zq_ac, zq_ad, zq_ae, zq_af, zq_ag, ↓zq_ah, ↓zq_ai, ↓zq_aj, zq_ak, ↓zq_al, ↓zq_am, e_b1, e_b2, x_o1, x_o2, r_F9, r_F10, r_F13, r_F14, r_F15, r_F16, r_F17, r_F18, r_F20, r_F21, r_F22, r_F23, r_F24, r_F27, r_F28, r_F29, r_F30, r_F33, r_F34, r_F35, r_P9, r_P10, r_P13, r_P14, r_P15, r_P16, r_P17, r_P18, r_P20, r_P21, r_P22, r_P23, r_P24, r_P27, r_P28, r_P29, r_P30, r_P33, r_P34, r_P35, r_O0, r_O1, r_O2, r_O3, r_O4, r_O5, r_O6, r_O7, r_O8, r_O11, r_O12, r_O19, r_O25, r_O26, r_O31, r_O32, r_O36, r_O37, r_O38, r_O39, ip, i1, i2, kk, w1, w2, k1, l0, kb, k4]
theorem ax_led (h : hd_all M) (J1 : r_J M1) (K1 : rx_K M1) (hfr : ∀ i, M1 193 i = M 193 i) (k1 : E_C 116 [8, p, u, n] M = some (r1, M1)) (k2 : E_C 217 [192, p, u, n] M1 = some (r2, M2)) : r1 = r2 := by
  have eG : r_G M1 = r_G M := funext fun i => hfr _
  have hW := (r_J_E J1).2.1
  have hB := h.1
  have hD := h.2.2.1
  have h10 : M 10 0 = r_G M 1198 := hB.1
  have i := h_149 (k := p) (M := M)
  rw [h10] at i
  by_cases c : 0 ≤ p ∧ p < r_G M 1198
  · rw [if_pos c] at i
    have c' : 0 ≤ p ∧ p < r_G M1 1198 := by rw [eG]; exact c
    have ip := r_ip1 hW c'
    have h40 := r_40 hW c'
    have kk : E_C 170 [192, p] M1 = some (r_G M1 (28 * p), M1) := r_kind h40
    by_cases b : ax_Lq u n
    · obtain ⟨q, rfl⟩ : ∃ q : Nat, p = q := ⟨p.toNat, by omega⟩
      have s := ax_155 (q := q) (M := M) (by omega)
      obtain ⟨q1, -⟩ := hB.2.2 q c.2
      have q1 : M 11 q = r_G M (28 * (q : Int)) := q1
      by_cases k3 : M 11 q = 3
      · rw [if_pos k3] at s
        have k3' : r_G M (28 * (q : Int)) = 3 := q1.symm.trans k3
        obtain ⟨-, -, -, d3⟩ := hD q c.2
        obtain ⟨-, -, ⟨t0, t1, t2⟩, -, -⟩ := d3 k3'
        have t0 : M (37 + q) 1 = r_G M (28 * (q : Int) + 5) := t0
        obtain ⟨N, A, a1, a2, a6, a181, aB, -, afr, a171, -⟩ := ax_fb h c.2
        have L6 := (ax_L6 h (q : Int)).resolve_right (fun e => e c)
        have SB : ∀ u : Int, 0 ≤ ax_S (r_G M) (q : Int) u ∧ ax_S (r_G M) (q : Int) u ≤ 600 := fun u => bx_s_bd L6
        have SB' : ∀ u : Int, 0 ≤ u ∧ u ≤ 500 → 0 ≤ ax_S (r_G M) (q : Int) u ∧ ax_S (r_G M) (q : Int) u ≤ 1000 := fun u _ => ⟨(SB u).1, by have := (SB u).2; omega⟩
        have bl := ax_B_le (g := r_G M) (p := (q : Int))
        have zok : sk_ok (u, 0, 0, 0) := ⟨b.1, Or.inl rfl, Or.inl rfl⟩
        obtain ⟨d, hd⟩ : ∃ d : Nat, n + 1 - 0 = d := ⟨(n + 1).toNat, by have := b.2; omega⟩
        have Bn : ∀ id k, id ≠ 182 → ax_b A 182 u (r_G M (28 * (q : Int) + 5)) id k = A id k := fun id k hid => by
          unfold ax_b
          rw [c_up_n (by omega), c_up_n (by omega), c_up_n (by omega), c_up_n (by omega), c_up_n (by omega)]
        have zC : sk_C (ax_b A 182 u (r_G M (28 * (q : Int) + 5))) 182 (r_G M (28 * (q : Int) + 5)) (u, 0, 0, 0) := by
          unfold ax_b
          exact ⟨by simp [c_up_s, ax_ff], by simp [c_up_s, ax_ff], by simp [c_up_s, ax_ff], by simp [c_up_s, ax_ff], fun h => absurd (show (0 : Int) = 1 from h) (by decide)⟩
        obtain ⟨M', x1⟩ := ax_78 (p := (q : Int)) (u := u) (s := ((37 + q : Nat) : Int)) ⟨t1, t2⟩ (B := (ax_B (r_G M) (q : Int) : Int)) ⟨by omega, by omega⟩ SB' b.2.2 d 0 _ _ zok zC ((Bn _ _ (by decide)).trans a6) ((Bn _ _ (by decide)).trans aB) (fun u hu => (Bn _ _ (by decide)).trans (a181 u hu)) hd (by decide)
        have af : A (37 + q) 1 = r_G M (28 * (q : Int) + 5) := (congrFun (afr (37 + q) (by omega)) 1).trans t0
        obtain ⟨e1, e2⟩ := Prod.mk.inj (Option.some.inj (k1.symm.trans (ax_116c i b (by omega) s a1 a2 af x1)))
        obtain ⟨R, g1, g2, g3⟩ := ax_gives eG J1 K1 (hd_cs_of h.2.1) (hd_cvs_of hD) c.2
        have eGR : r_G R = r_G M := (rx_sm_G g2).trans eG
        have bo := rx_208 (M := R) (s := fun u => ax_S (r_G M) (q : Int) (u : Int)) (fun u hu => g3 u (by omega)) (fun u _ => ⟨(SB u).1, by have := (SB u).2; omega⟩)
        have bo : E_C 208 [192] R = some ((ax_B (r_G M) (q : Int) : Int), R) := bo
        have zR : sk_R (ax_q1 R u) (u, 0, 0, 0) := by
          unfold ax_q1
          exact ⟨by simp [c_up_s, r_ff], by simp [c_up_s, r_ff], by simp [c_up_s, r_ff], fun h => absurd (show (0 : Int) = 1 from h) (by decide)⟩
        have gq : ∀ id k, id ≠ 192 → ax_q1 R u id k = R id k := fun id k hid => by
          unfold ax_q1
          rw [c_up_n (by omega), c_up_n (by omega), c_up_n (by omega)]
        obtain ⟨M'', y1⟩ := rx_88 (p := (q : Int)) (u := u) ⟨t1, t2⟩ (B := (ax_B (r_G M) (q : Int) : Int)) ⟨by omega, by omega⟩ SB' b.2.2 d 0 _ _ zok zR (fun u hu => (gq _ _ (by decide)).trans (g3 u (by omega))) hd (by decide)
        obtain ⟨f1, f2⟩ := Prod.mk.inj (Option.some.inj (k2.symm.trans (ax_217c eG h40 ip b kk k3' g1 eGR bo rfl y1)))
        exact e1.trans f1.symm
      · rw [if_neg k3] at s
        obtain ⟨e1, e2⟩ := Prod.mk.inj (Option.some.inj (k1.symm.trans (ax_116b i b s)))
        have k3' : r_G M1 (28 * (q : Int)) ≠ 3 := by rw [eG, ← q1]; exact k3
        obtain ⟨f1, f2⟩ := Prod.mk.inj (Option.some.inj (k2.symm.trans (ax_217b ip b kk k3')))
        exact e1.trans f1.symm
    · obtain ⟨e1, e2⟩ := Prod.mk.inj (Option.some.inj (k1.symm.trans (ax_116a i (Or.inr ⟨rfl, b⟩))))
      obtain ⟨f1, f2⟩ := Prod.mk.inj (Option.some.inj (k2.symm.trans (ax_217a ip (Or.inr ⟨rfl, b⟩))))
      exact e1.trans f1.symm
  · rw [if_neg c] at i
    have ip := r_ip0 hW (show ¬ (0 ≤ p ∧ p < r_G M1 1198) by rw [eG]; exact c)
    obtain ⟨e1, e2⟩ := Prod.mk.inj (Option.some.inj (k1.symm.trans (ax_116a i (Or.inl rfl))))
    obtain ⟨f1, f2⟩ := Prod.mk.inj (Option.some.inj (k2.symm.trans (ax_217a ip (Or.inl rfl))))
    exact e1.trans f1.symm
end AXD
