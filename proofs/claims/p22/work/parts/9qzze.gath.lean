/-! CELLS and DIODES gathered by the reference: exactly -/
def gd_n (D : Nat → Int) : Nat → Nat
  | 0 => 0
  | m + 1 => gd_n D m + (if D m ≠ 0 then 1 else 0)
theorem gd_n_le {D : Nat → Int} : ∀ m, gd_n D m ≤ m := by
  intro m
  induction m with
  | zero => exact Nat.le_refl _
  | succ m ih =>
    show gd_n D m + (if D m ≠ 0 then 1 else 0) ≤ m + 1
    split <;> omega
theorem gd_n_m {D : Nat → Int} {m : Nat} : ∀ t, gd_n D m ≤ gd_n D (m + t) := by
  intro t
  induction t with
  | zero => exact Nat.le_refl _
  | succ t ih =>
    show gd_n D m ≤ gd_n D (m + t) + (if D (m + t) ≠ 0 then 1 else 0)
    omega
theorem gd_n_1 {D : Nat → Int} {m : Nat} (h : D m ≠ 0) : gd_n D (m + 1) = gd_n D m + 1 := by
  show gd_n D m + (if D m ≠ 0 then 1 else 0) = _
  rw [if_pos h]
theorem gd_n_0 {D : Nat → Int} {m : Nat} (h : D m = 0) : gd_n D (m + 1) = gd_n D m := by
  show gd_n D m + (if D m ≠ 0 then 1 else 0) = _
  rw [if_neg (fun e => e h)]
  rfl
theorem gd_n_cg {D D' : Nat → Int} : ∀ m, (∀ y, y < m → (D' y ≠ 0 ↔ D y ≠ 0)) → gd_n D' m = gd_n D m := by
  intro m
  induction m with
  | zero => intro _; rfl
  | succ m ih =>
    intro h
    have a := ih (fun y hy => h y (by omega))
    have b := h m (by omega)
    by_cases c : D m = 0
    · rw [gd_n_0 c, gd_n_0 (Classical.byContradiction fun e => (b.mp e) c), a]
    · rw [gd_n_1 c, gd_n_1 (b.mpr c), a]
def ga_D (g : Int → Int) (x : Int) (y : Nat) : Int := g (28 * x + 20 + (y : Int))
def ga_nd (g : Int → Int) (x : Int) : Nat := if g (28 * x) = 0 then 0 else gd_n (ga_D g x) (g (28 * x + 19)).toNat
/-- how things lie once a line has come -/
def ga_A (g : Int → Int) (M M' : EM) (x : Int) (c d : Nat) : Prop := M' 192 13 = ((c + bx_nc g x : Nat) : Int) ∧ M' 192 14 = ((d + ga_nd g x : Nat) : Int) ∧ (∀ k, k < bx_nc g x → M' 202 (c + k) = bx_ce g x k) ∧ (∀ y : Nat, g (28 * x) ≠ 0 → y < (g (28 * x + 19)).toNat → ga_D g x y ≠ 0 → M' 203 (d + gd_n (ga_D g x) y) = 8 * x + (y : Int)) ∧ ∀ id k, ¬ (id = 202 ∧ c ≤ k) → ¬ (id = 203 ∧ d ≤ k) → ¬ (id = 192 ∧ (k = 13 ∨ k = 14)) → M' id k = M id k
theorem ga_G {M M' : EM} (h : ∀ id k, id ≠ 192 → id ≠ 202 → id ≠ 203 → M' id k = M id k) : r_G M' = r_G M := funext fun i => h _ _ (by decide) (by decide) (by decide)
theorem ga_82_305 {g : Int → Int} {x : Int} {d0 gr : Nat} (hx : 0 ≤ x ∧ x < 40) (hg : g (28 * x + 19) = gr) (hg8 : gr ≤ 8) (hd : d0 + gd_n (ga_D g x) gr ≤ 48) : ∀ (t m : Nat) (x2 : Int) (M : EM), x2 = m → m + t = gr → r_G M = g → M 192 14 = ((d0 + gd_n (ga_D g x) m : Nat) : Int) → ∃ M', E_V 305 82 [192, x, x2] M = some (0, M') ∧ M' 192 14 = ((d0 + gd_n (ga_D g x) gr : Nat) : Int) ∧ (∀ y : Nat, m ≤ y → y < gr → ga_D g x y ≠ 0 → M' 203 (d0 + gd_n (ga_D g x) y) = 8 * x + (y : Int)) ∧ ∀ id k, ¬ (id = 203 ∧ d0 + gd_n (ga_D g x) m ≤ k) → ¬ (id = 192 ∧ k = 14) → M' id k = M id k := by
  have w1 : e_w (28 * x) = 28 * x := a_w_id (by omega) (by omega)
  have w2 : e_w (28 * x + 19) = 28 * x + 19 := a_w_id (by omega) (by omega)
  have w3 : e_w (28 * x + 20) = 28 * x + 20 := a_w_id (by omega) (by omega)
  intro t
  induction t with
  | zero =>
    intro m x2 M h2 hm hG h14
    have e : m = gr := by omega
    subst e
    have l1 : e_op 60 [193, 28 * x + 19] M = some (g (28 * x + 19)) := (r_rd (by omega) (by omega)).trans (congrArg some (congrFun hG _))
    have q : ¬ (x2 < g (28 * x + 19)) := by omega
    refine ⟨M, ?_, h14, fun y h1 h2 => absurd h1 (by omega), fun _ _ _ _ => rfl⟩
    clear h14 hd
    rw [E_V_eq]
    show e_tv E_C (E_V 305) e_t305_82 [192, x, x2] M = _
    unfold e_t305_82
    simp [zq_a, zq_b, zq_c, zq_d, zq_e, zq_f, zq_g, zq_h, zq_i, zq_j, zq_k, zq_l, zq_m, zq_n, zq_o, zq_p, zq_q, zq_r, zq_s, zq_t, zq_u, zq_v, zq_w, zq_x, zq_y, zq_z, zq_A, zq_B, zq_C, zq_D, zq_E, zq_F, zq_G, zq_H, zq_I, zq_J, zq_K, zq_L, ↓zq_M, ↓zq_N, ↓zq_O, ↓zq_P, ↓zq_Q, ↓zq_R, zq_S, zq_T, zq_U, zq_V, zq_W, zq_X, zq_Y, zq_Z, zq_0, zq_1, zq_2, zq_3, zq_4, zq_5, ↓zq_6, ↓zq_7, ↓zq_8, ↓zq_9, ↓zq_aa, zq_ab, zq_ac, zq_ad, zq_ae, zq_af, zq_ag, ↓zq_ah, ↓zq_ai, ↓zq_aj, zq_ak, ↓zq_al, ↓zq_am, e_b1, e_b2, x_o1, x_o2, r_O0, w1, w2, l1, q]
  | succ t ih =>
    intro m x2 M h2 hm hG h14
    have l1 : e_op 60 [193, 28 * x + 19] M = some (g (28 * x + 19)) := (r_rd (by omega) (by omega)).trans (congrArg some (congrFun hG _))
    have l2 : e_op 60 [193, 28 * x + 20 + x2] M = some (g (28 * x + 20 + x2)) := (r_rd (by omega) (by omega)).trans (congrArg some (congrFun hG _))
    have q : x2 < g (28 * x + 19) := by omega
    have w4 : e_w (28 * x + 20 + x2) = 28 * x + 20 + x2 := a_w_id (by omega) (by omega)
    have w5 : e_w (x2 + 1) = x2 + 1 := a_w_id (by omega) (by omega)
    have eD : ga_D g x m = g (28 * x + 20 + x2) := by unfold ga_D; rw [h2]
    have mm := gd_n_m (D := ga_D g x) (m := m + 1) t
    rw [show m + 1 + t = gr by omega] at mm
    by_cases c : g (28 * x + 20 + x2) = 0
    · have en : gd_n (ga_D g x) (m + 1) = gd_n (ga_D g x) m := gd_n_0 (eD.trans c)
      obtain ⟨M', k, k1, k2, k3⟩ := ih (m + 1) (x2 + 1) M (by omega) (by omega) hG (by rw [en]; exact h14)
      rw [en] at k3
      refine ⟨M', ?_, k1, fun y h1 h2 h3 => ?_, k3⟩
      · have k143 : E_V 305 143 [192, x, x2] M = some (0, M') := by
          rw [E_V_eq]
          show e_tv E_C (E_V 305) e_t305_143 [192, x, x2] M = _
          unfold e_t305_143
          simp [zq_a, zq_b, zq_c, zq_d, zq_e, zq_f, zq_g, zq_h, zq_i, zq_j, zq_k, zq_l, zq_m, zq_n, zq_o, zq_p, zq_q, zq_r, zq_s, zq_t, zq_u, zq_v, zq_w, zq_x, zq_y, zq_z, zq_A, zq_B, zq_C, zq_D, zq_E, zq_F, zq_G, zq_H, zq_I, zq_J, zq_K, zq_L, ↓zq_M, ↓zq_N, ↓zq_O, ↓zq_P, ↓zq_Q, ↓zq_R, zq_S, zq_T, zq_U, zq_V, zq_W, zq_X, zq_Y, zq_Z, zq_0, zq_1, zq_2, zq_3, zq_4, zq_5, ↓zq_6, ↓zq_7, ↓zq_8, ↓zq_9, ↓zq_aa, zq_ab, zq_ac, zq_ad, zq_ae, zq_af, zq_ag, ↓zq_ah, ↓zq_ai, ↓zq_aj, zq_ak, ↓zq_al, ↓zq_am, e_b1, e_b2, x_o1, x_o2, w5, k]
        rw [E_V_eq]
        show e_tv E_C (E_V 305) e_t305_82 [192, x, x2] M = _
        unfold e_t305_82
        simp [zq_a, zq_b, zq_c, zq_d, zq_e, zq_f, zq_g, zq_h, zq_i, zq_j, zq_k, zq_l, zq_m, zq_n, zq_o, zq_p, zq_q, zq_r, zq_s, zq_t, zq_u, zq_v, zq_w, zq_x, zq_y, zq_z, zq_A, zq_B, zq_C, zq_D, zq_E, zq_F, zq_G, zq_H, zq_I, zq_J, zq_K, zq_L, ↓zq_M, ↓zq_N, ↓zq_O, ↓zq_P, ↓zq_Q, ↓zq_R, zq_S, zq_T, zq_U, zq_V, zq_W, zq_X, zq_Y, zq_Z, zq_0, zq_1, zq_2, zq_3, zq_4, zq_5, ↓zq_6, ↓zq_7, ↓zq_8, ↓zq_9, ↓zq_aa, zq_ab, zq_ac, zq_ad, zq_ae, zq_af, zq_ag, ↓zq_ah, ↓zq_ai, ↓zq_aj, zq_ak, ↓zq_al, ↓zq_am, e_b1, e_b2, x_o1, x_o2, r_O0, w1, w2, w3, w4, l1, l2, q, c, k143]
      · by_cases e : y = m
        · exact absurd (by rw [e]; exact eD.trans c) h3
        · exact k2 y (by omega) h2 h3
    · have en : gd_n (ga_D g x) (m + 1) = gd_n (ga_D g x) m + 1 := gd_n_1 (fun e => c (eD.symm.trans e))
      obtain ⟨n14, hn14⟩ : ∃ n14 : Nat, d0 + gd_n (ga_D g x) m = n14 := ⟨_, rfl⟩
      rw [hn14] at h14 ⊢
      have b14 : n14 ≤ 47 := by omega
      have w6 : e_w (8 * x) = 8 * x := a_w_id (by omega) (by omega)
      have w7 : e_w (8 * x + x2) = 8 * x + x2 := a_w_id (by omega) (by omega)
      have st := r_st203 (i := (n14 : Int)) (v := 8 * x + x2) (M := M) (by omega) (by omega)
      rw [Int.toNat_natCast] at st
      have h13 : (e_up M 203 n14 (8 * x + x2)) 192 14 = (n14 : Int) := (c_up_n (by omega)).trans h14
      obtain ⟨M', k, k1, k2, k3⟩ := ih (m + 1) (x2 + 1) (e_up (e_up M 203 n14 (8 * x + x2)) 192 14 ((n14 : Int) + 1)) (by omega) (by omega) ((ga_G (fun id k a b e => by rw [c_up_n (by omega), c_up_n (by omega)])).trans hG) (by rw [c_up_s]; omega)
      refine ⟨M', ?_, k1, fun y h1 h2' h3 => ?_, fun id k a b => ?_⟩
      · have k143 : E_V 305 143 [192, x, x2] (e_up (e_up M 203 n14 (8 * x + x2)) 192 14 ((n14 : Int) + 1)) = some (0, M') := by
          rw [E_V_eq]
          show e_tv E_C (E_V 305) e_t305_143 [192, x, x2] (e_up (e_up M 203 n14 (8 * x + x2)) 192 14 ((n14 : Int) + 1)) = _
          unfold e_t305_143
          simp [zq_a, zq_b, zq_c, zq_d, zq_e, zq_f, zq_g, zq_h, zq_i, zq_j, zq_k, zq_l, zq_m, zq_n, zq_o, zq_p, zq_q, zq_r, zq_s, zq_t, zq_u, zq_v, zq_w, zq_x, zq_y, zq_z, zq_A, zq_B, zq_C, zq_D, zq_E, zq_F, zq_G, zq_H, zq_I, zq_J, zq_K, zq_L, ↓zq_M, ↓zq_N, ↓zq_O, ↓zq_P, ↓zq_Q, ↓zq_R, zq_S, zq_T, zq_U, zq_V, zq_W, zq_X, zq_Y, zq_Z, zq_0, zq_1, zq_2, zq_3, zq_4, zq_5, ↓zq_6, ↓zq_7, ↓zq_8, ↓zq_9, ↓zq_aa, zq_ab, zq_ac, zq_ad, zq_ae, zq_af, zq_ag, ↓zq_ah, ↓zq_ai, ↓zq_aj, zq_ak, ↓zq_al, ↓zq_am, e_b1, e_b2, x_o1, x_o2, w5, k]
        have w8 : e_w ((n14 : Int) + 1) = (n14 : Int) + 1 := a_w_id (by omega) (by omega)
        clear k k1 k2 k3 ih mm en hn14
        generalize (n14 : Int) = nn at *
        rw [E_V_eq]
        show e_tv E_C (E_V 305) e_t305_82 [192, x, x2] M = _
        unfold e_t305_82
        simp [zq_a, zq_b, zq_c, zq_d, zq_e, zq_f, zq_g, zq_h, zq_i, zq_j, zq_k, zq_l, zq_m, zq_n, zq_o, zq_p, zq_q, zq_r, zq_s, zq_t, zq_u, zq_v, zq_w, zq_x, zq_y, zq_z, zq_A, zq_B, zq_C, zq_D, zq_E, zq_F, zq_G, zq_H, zq_I, zq_J, zq_K, zq_L, ↓zq_M, ↓zq_N, ↓zq_O, ↓zq_P, ↓zq_Q, ↓zq_R, zq_S, zq_T, zq_U, zq_V, zq_W, zq_X, zq_Y, zq_Z, zq_0, zq_1, zq_2, zq_3, zq_4, zq_5, ↓zq_6, ↓zq_7, ↓zq_8, ↓zq_9, ↓zq_aa, zq_ab, zq_ac, zq_ad, zq_ae, zq_af, zq_ag, ↓zq_ah, ↓zq_ai, ↓zq_aj, zq_ak, ↓zq_al, ↓zq_am, e_b1, e_b2, x_o1, x_o2, r_O0, r_O12, r_F14, r_P14, w1, w2, w3, w4, w6, w7, w8, l1, l2, q, c, h14, h13, st, k143]
      · by_cases e : y = m
        · subst e
          rw [hn14, k3 _ _ (by omega) (by omega), c_up_n (by omega), c_up_s, h2]
        · exact k2 y (by omega) h2' h3
      · rw [k3 _ _ (by omega) (by omega), c_up_n (by omega), c_up_n (by omega)]
theorem ga_40_305 {g : Int → Int} {x : Int} {c0 n : Nat} (hx : 0 ≤ x ∧ x < 40) (hn : g (28 * x + 2) = n) (hn8 : n ≤ 8) (hc : c0 + n ≤ 48) : ∀ (t m : Nat) (x2 : Int) (M : EM), x2 = m → m + t = n → r_G M = g → M 192 13 = ((c0 + m : Nat) : Int) → ∃ M1, E_V 305 40 [192, x, x2] M = E_V 305 82 [192, x, 0] M1 ∧ M1 192 13 = ((c0 + n : Nat) : Int) ∧ (∀ k : Nat, m ≤ k → k < n → M1 202 (c0 + k) = g (28 * x + 3 + (k : Int))) ∧ ∀ id k, ¬ (id = 202 ∧ c0 + m ≤ k) → ¬ (id = 192 ∧ k = 13) → M1 id k = M id k := by
  intro t
  induction t with
  | zero =>
    intro m x2 M h2 hm hG h13
    have e : m = n := by omega
    subst e
    have km : E_C 171 [192, x] M = some (g (28 * x + 2), M) := by rw [← hG]; exact r_many hx
    have q : ¬ (x2 < g (28 * x + 2)) := by omega
    refine ⟨M, ?_, h13, fun y h1 h2 => absurd h1 (by omega), fun _ _ _ _ => rfl⟩
    clear h13 hc
    rw [E_V_eq]
    show e_tv E_C (E_V 305) e_t305_40 [192, x, x2] M = _
    unfold e_t305_40
    simp [zq_a, zq_b, zq_c, zq_d, zq_e, zq_f, zq_g, zq_h, zq_i, zq_j, zq_k, zq_l, zq_m, zq_n, zq_o, zq_p, zq_q, zq_r, zq_s, zq_t, zq_u, zq_v, zq_w, zq_x, zq_y, zq_z, zq_A, zq_B, zq_C, zq_D, zq_E, zq_F, zq_G, zq_H, zq_I, zq_J, zq_K, zq_L, ↓zq_M, ↓zq_N, ↓zq_O, ↓zq_P, ↓zq_Q, ↓zq_R, zq_S, zq_T, zq_U, zq_V, zq_W, zq_X, zq_Y, zq_Z, zq_0, zq_1, zq_2, zq_3, zq_4, zq_5, ↓zq_6, ↓zq_7, ↓zq_8, ↓zq_9, ↓zq_aa, zq_ab, zq_ac, zq_ad, zq_ae, zq_af, zq_ag, ↓zq_ah, ↓zq_ai, ↓zq_aj, zq_ak, ↓zq_al, ↓zq_am, e_b1, e_b2, x_o1, x_o2, km, q]
  | succ t ih =>
    intro m x2 M h2 hm hG h13
    have km : E_C 171 [192, x] M = some (g (28 * x + 2), M) := by rw [← hG]; exact r_many hx
    have ko : E_C 172 [192, x, x2] M = some (g (28 * x + 3 + x2), M) := by rw [← hG]; exact r_of hx ⟨by omega, by omega⟩
    have q : x2 < g (28 * x + 2) := by omega
    have w5 : e_w (x2 + 1) = x2 + 1 := a_w_id (by omega) (by omega)
    obtain ⟨n13, hn13⟩ : ∃ n13 : Nat, c0 + m = n13 := ⟨_, rfl⟩
    rw [hn13] at h13 ⊢
    have st := r_st202 (i := (n13 : Int)) (v := g (28 * x + 3 + x2)) (M := M) (by omega) (by omega)
    rw [Int.toNat_natCast] at st
    have h13' : (e_up M 202 n13 (g (28 * x + 3 + x2))) 192 13 = (n13 : Int) := (c_up_n (by omega)).trans h13
    obtain ⟨M', k, k1, k2, k3⟩ := ih (m + 1) (x2 + 1) (e_up (e_up M 202 n13 (g (28 * x + 3 + x2))) 192 13 ((n13 : Int) + 1)) (by omega) (by omega) ((ga_G (fun id k a b e => by rw [c_up_n (by omega), c_up_n (by omega)])).trans hG) (by rw [c_up_s]; omega)
    refine ⟨M', ?_, k1, fun y h1 h2' => ?_, fun id k a b => ?_⟩
    · rw [← k]
      have w8 : e_w ((n13 : Int) + 1) = (n13 : Int) + 1 := a_w_id (by omega) (by omega)
      clear k k1 k2 k3 ih hn13
      generalize (n13 : Int) = nn at *
      rw [E_V_eq]
      show e_tv E_C (E_V 305) e_t305_40 [192, x, x2] M = _
      unfold e_t305_40
      simp [zq_a, zq_b, zq_c, zq_d, zq_e, zq_f, zq_g, zq_h, zq_i, zq_j, zq_k, zq_l, zq_m, zq_n, zq_o, zq_p, zq_q, zq_r, zq_s, zq_t, zq_u, zq_v, zq_w, zq_x, zq_y, zq_z, zq_A, zq_B, zq_C, zq_D, zq_E, zq_F, zq_G, zq_H, zq_I, zq_J, zq_K, zq_L, ↓zq_M, ↓zq_N, ↓zq_O, ↓zq_P, ↓zq_Q, ↓zq_R, zq_S, zq_T, zq_U, zq_V, zq_W, zq_X, zq_Y, zq_Z, zq_0, zq_1, zq_2, zq_3, zq_4, zq_5, ↓zq_6, ↓zq_7, ↓zq_8, ↓zq_9, ↓zq_aa, zq_ab, zq_ac, zq_ad, zq_ae, zq_af, zq_ag, ↓zq_ah, ↓zq_ai, ↓zq_aj, zq_ak, ↓zq_al, ↓zq_am, e_b1, e_b2, x_o1, x_o2, r_O11, r_F13, r_P13, w5, w8, km, ko, q, h13, h13', st]
    · by_cases e : y = m
      · subst e
        rw [hn13, k3 _ _ (by omega) (by omega), c_up_n (by omega), c_up_s, h2]
      · exact k2 y (by omega) h2'
    · rw [k3 _ _ (by omega) (by omega), c_up_n (by omega), c_up_n (by omega)]
theorem ga_lo_305 {g : Int → Int} {b x : Int} {c d : Nat} {M : EM} (hb : b ≤ 40) (hr : r_cl g b x ∨ r_rw g b x) (hc : c + bx_nc g x ≤ 48) (hd : d + ga_nd g x ≤ 48) (hG : r_G M = g) (h13 : M 192 13 = c) (h14 : M 192 14 = d) : ∃ M', E_C 305 [192, x] M = some (0, M') ∧ ga_A g M M' x c d := by
  have h40 := r_lo_p hb hr
  have kk : E_C 170 [192, x] M = some (g (28 * x), M) := by rw [← hG]; exact r_kind h40
  unfold ga_A
  rcases hr with hr | hr
  · have a3 := hr.2.2.1
    have en : bx_nc g x = 1 := if_pos a3
    have ed : ga_nd g x = 0 := if_pos a3
    rw [en] at hc ⊢
    rw [ed]
    have st := r_st202 (i := (c : Int)) (v := x) (M := M) (by omega) (by omega)
    rw [Int.toNat_natCast] at st
    have h13' : (e_up M 202 c x) 192 13 = (c : Int) := (c_up_n (by omega)).trans h13
    refine ⟨e_up (e_up M 202 c x) 192 13 ((c : Int) + 1), ?_, by rw [c_up_s]; omega, ?_, fun k hk => ?_, fun y hy => absurd a3 hy, fun id k i1 i2 i3 => ?_⟩
    · have w8 : e_w ((c : Int) + 1) = (c : Int) + 1 := a_w_id (by omega) (by omega)
      clear hc hd
      generalize (c : Int) = nn at *
      rw [r_ent (show e_rok 305 [192, x] = true from decide_eq_true r_ref)]
      show e_tv E_C (E_V 305) e_t305_0 [192, x, 0] M = _
      unfold e_t305_0
      simp [zq_a, zq_b, zq_c, zq_d, zq_e, zq_f, zq_g, zq_h, zq_i, zq_j, zq_k, zq_l, zq_m, zq_n, zq_o, zq_p, zq_q, zq_r, zq_s, zq_t, zq_u, zq_v, zq_w, zq_x, zq_y, zq_z, zq_A, zq_B, zq_C, zq_D, zq_E, zq_F, zq_G, zq_H, zq_I, zq_J, zq_K, zq_L, ↓zq_M, ↓zq_N, ↓zq_O, ↓zq_P, ↓zq_Q, ↓zq_R, zq_S, zq_T, zq_U, zq_V, zq_W, zq_X, zq_Y, zq_Z, zq_0, zq_1, zq_2, zq_3, zq_4, zq_5, ↓zq_6, ↓zq_7, ↓zq_8, ↓zq_9, ↓zq_aa, zq_ab, zq_ac, zq_ad, zq_ae, zq_af, zq_ag, ↓zq_ah, ↓zq_ai, ↓zq_aj, zq_ak, ↓zq_al, ↓zq_am, e_b1, e_b2, x_o1, x_o2, r_O11, r_F13, r_P13, kk, a3, w8, h13, h13', st]
    · rw [c_up_n (by omega), c_up_n (by omega), h14, Nat.add_zero]
    · have e : k = 0 := by omega
      subst e
      rw [c_up_n (by omega), Nat.add_zero, c_up_s]
      exact (if_pos a3).symm
    · rw [c_up_n (by omega), c_up_n (by omega)]
  · obtain ⟨a1, a2, a3, a4, a5, a6, a7, a8⟩ := hr
    have k0 : ¬ g (28 * x) = 0 := by omega
    obtain ⟨n, hn⟩ : ∃ n : Nat, g (28 * x + 2) = n := ⟨(g (28 * x + 2)).toNat, by omega⟩
    obtain ⟨gr, hgr⟩ : ∃ gr : Nat, g (28 * x + 19) = gr := ⟨(g (28 * x + 19)).toNat, by omega⟩
    have en : bx_nc g x = n := by
      unfold bx_nc
      rw [if_neg k0, hn, Int.toNat_natCast]
    have ed : ga_nd g x = gd_n (ga_D g x) gr := by
      unfold ga_nd
      rw [if_neg k0, hgr, Int.toNat_natCast]
    rw [en] at hc ⊢
    rw [ed] at hd ⊢
    rw [hgr, Int.toNat_natCast]
    obtain ⟨M1, k1, s1, s2, s3⟩ := ga_40_305 (c0 := c) h40 hn (by omega) hc n 0 0 M rfl (by omega) hG h13
    obtain ⟨M2, k2, t1, t2, t3⟩ := ga_82_305 (d0 := d) h40 hgr (by omega) hd gr 0 0 M1 rfl (by omega) ((ga_G (fun id k a b e => s3 _ _ (by omega) (by omega))).trans hG) ((s3 _ _ (by omega) (by omega)).trans h14)
    have t3' : ∀ id k, ¬ (id = 203 ∧ d ≤ k) → ¬ (id = 192 ∧ k = 14) → M2 id k = M1 id k := fun id k i1 i2 => t3 id k (fun e => i1 ⟨e.1, by have := e.2; show d + gd_n (ga_D g x) 0 ≤ k; exact this⟩) i2
    have s3' : ∀ id k, ¬ (id = 202 ∧ c ≤ k) → ¬ (id = 192 ∧ k = 13) → M1 id k = M id k := fun id k i1 i2 => s3 id k i1 i2
    refine ⟨M2, ?_, (t3' _ _ (by omega) (by omega)).trans s1, t1, fun k hk => ?_, fun y _ hy hz => t2 y (Nat.zero_le _) hy hz, fun id k i1 i2 i3 => (t3' _ _ (by omega) (by omega)).trans (s3' _ _ (by omega) (by omega))⟩
    · have k3 := k1.trans k2
      rw [r_ent (show e_rok 305 [192, x] = true from decide_eq_true r_ref)]
      show e_tv E_C (E_V 305) e_t305_0 [192, x, 0] M = _
      unfold e_t305_0
      simp [zq_a, zq_b, zq_c, zq_d, zq_e, zq_f, zq_g, zq_h, zq_i, zq_j, zq_k, zq_l, zq_m, zq_n, zq_o, zq_p, zq_q, zq_r, zq_s, zq_t, zq_u, zq_v, zq_w, zq_x, zq_y, zq_z, zq_A, zq_B, zq_C, zq_D, zq_E, zq_F, zq_G, zq_H, zq_I, zq_J, zq_K, zq_L, ↓zq_M, ↓zq_N, ↓zq_O, ↓zq_P, ↓zq_Q, ↓zq_R, zq_S, zq_T, zq_U, zq_V, zq_W, zq_X, zq_Y, zq_Z, zq_0, zq_1, zq_2, zq_3, zq_4, zq_5, ↓zq_6, ↓zq_7, ↓zq_8, ↓zq_9, ↓zq_aa, zq_ab, zq_ac, zq_ad, zq_ae, zq_af, zq_ag, ↓zq_ah, ↓zq_ai, ↓zq_aj, zq_ak, ↓zq_al, ↓zq_am, e_b1, e_b2, x_o1, x_o2, kk, a3, k3]
    · rw [t3' _ _ (by omega) (by omega), s2 k (Nat.zero_le _) hk]
      exact (if_neg k0).symm
theorem ga_82_304 {g : Int → Int} {x : Int} {d0 gr : Nat} (hx : 0 ≤ x ∧ x < 40) (hg : g (28 * x + 19) = gr) (hg8 : gr ≤ 8) (hd : d0 + gd_n (ga_D g x) gr ≤ 48) : ∀ (t m : Nat) (x2 : Int) (M : EM), x2 = m → m + t = gr → r_G M = g → M 192 14 = ((d0 + gd_n (ga_D g x) m : Nat) : Int) → ∃ M', E_V 304 82 [192, x, x2] M = some (0, M') ∧ M' 192 14 = ((d0 + gd_n (ga_D g x) gr : Nat) : Int) ∧ (∀ y : Nat, m ≤ y → y < gr → ga_D g x y ≠ 0 → M' 203 (d0 + gd_n (ga_D g x) y) = 8 * x + (y : Int)) ∧ ∀ id k, ¬ (id = 203 ∧ d0 + gd_n (ga_D g x) m ≤ k) → ¬ (id = 192 ∧ k = 14) → M' id k = M id k := by
  have w1 : e_w (28 * x) = 28 * x := a_w_id (by omega) (by omega)
  have w2 : e_w (28 * x + 19) = 28 * x + 19 := a_w_id (by omega) (by omega)
  have w3 : e_w (28 * x + 20) = 28 * x + 20 := a_w_id (by omega) (by omega)
  intro t
  induction t with
  | zero =>
    intro m x2 M h2 hm hG h14
    have e : m = gr := by omega
    subst e
    have l1 : e_op 60 [193, 28 * x + 19] M = some (g (28 * x + 19)) := (r_rd (by omega) (by omega)).trans (congrArg some (congrFun hG _))
    have q : ¬ (x2 < g (28 * x + 19)) := by omega
    refine ⟨M, ?_, h14, fun y h1 h2 => absurd h1 (by omega), fun _ _ _ _ => rfl⟩
    clear h14 hd
    rw [E_V_eq]
    show e_tv E_C (E_V 304) e_t304_82 [192, x, x2] M = _
    unfold e_t304_82
    simp [zq_a, zq_b, zq_c, zq_d, zq_e, zq_f, zq_g, zq_h, zq_i, zq_j, zq_k, zq_l, zq_m, zq_n, zq_o, zq_p, zq_q, zq_r, zq_s, zq_t, zq_u, zq_v, zq_w, zq_x, zq_y, zq_z, zq_A, zq_B, zq_C, zq_D, zq_E, zq_F, zq_G, zq_H, zq_I, zq_J, zq_K, zq_L, ↓zq_M, ↓zq_N, ↓zq_O, ↓zq_P, ↓zq_Q, ↓zq_R, zq_S, zq_T, zq_U, zq_V, zq_W, zq_X, zq_Y, zq_Z, zq_0, zq_1, zq_2, zq_3, zq_4, zq_5, ↓zq_6, ↓zq_7, ↓zq_8, ↓zq_9, ↓zq_aa, zq_ab, zq_ac, zq_ad, zq_ae, zq_af, zq_ag, ↓zq_ah, ↓zq_ai, ↓zq_aj, zq_ak, ↓zq_al, ↓zq_am, e_b1, e_b2, x_o1, x_o2, r_O0, w1, w2, l1, q]
  | succ t ih =>
    intro m x2 M h2 hm hG h14
    have l1 : e_op 60 [193, 28 * x + 19] M = some (g (28 * x + 19)) := (r_rd (by omega) (by omega)).trans (congrArg some (congrFun hG _))
    have l2 : e_op 60 [193, 28 * x + 20 + x2] M = some (g (28 * x + 20 + x2)) := (r_rd (by omega) (by omega)).trans (congrArg some (congrFun hG _))
    have q : x2 < g (28 * x + 19) := by omega
    have w4 : e_w (28 * x + 20 + x2) = 28 * x + 20 + x2 := a_w_id (by omega) (by omega)
    have w5 : e_w (x2 + 1) = x2 + 1 := a_w_id (by omega) (by omega)
    have eD : ga_D g x m = g (28 * x + 20 + x2) := by unfold ga_D; rw [h2]
    have mm := gd_n_m (D := ga_D g x) (m := m + 1) t
    rw [show m + 1 + t = gr by omega] at mm
    by_cases c : g (28 * x + 20 + x2) = 0
    · have en : gd_n (ga_D g x) (m + 1) = gd_n (ga_D g x) m := gd_n_0 (eD.trans c)
      obtain ⟨M', k, k1, k2, k3⟩ := ih (m + 1) (x2 + 1) M (by omega) (by omega) hG (by rw [en]; exact h14)
      rw [en] at k3
      refine ⟨M', ?_, k1, fun y h1 h2 h3 => ?_, k3⟩
      · have k143 : E_V 304 143 [192, x, x2] M = some (0, M') := by
          rw [E_V_eq]
          show e_tv E_C (E_V 304) e_t304_143 [192, x, x2] M = _
          unfold e_t304_143
          simp [zq_a, zq_b, zq_c, zq_d, zq_e, zq_f, zq_g, zq_h, zq_i, zq_j, zq_k, zq_l, zq_m, zq_n, zq_o, zq_p, zq_q, zq_r, zq_s, zq_t, zq_u, zq_v, zq_w, zq_x, zq_y, zq_z, zq_A, zq_B, zq_C, zq_D, zq_E, zq_F, zq_G, zq_H, zq_I, zq_J, zq_K, zq_L, ↓zq_M, ↓zq_N, ↓zq_O, ↓zq_P, ↓zq_Q, ↓zq_R, zq_S, zq_T, zq_U, zq_V, zq_W, zq_X, zq_Y, zq_Z, zq_0, zq_1, zq_2, zq_3, zq_4, zq_5, ↓zq_6, ↓zq_7, ↓zq_8, ↓zq_9, ↓zq_aa, zq_ab, zq_ac, zq_ad, zq_ae, zq_af, zq_ag, ↓zq_ah, ↓zq_ai, ↓zq_aj, zq_ak, ↓zq_al, ↓zq_am, e_b1, e_b2, x_o1, x_o2, w5, k]
        rw [E_V_eq]
        show e_tv E_C (E_V 304) e_t304_82 [192, x, x2] M = _
        unfold e_t304_82
        simp [zq_a, zq_b, zq_c, zq_d, zq_e, zq_f, zq_g, zq_h, zq_i, zq_j, zq_k, zq_l, zq_m, zq_n, zq_o, zq_p, zq_q, zq_r, zq_s, zq_t, zq_u, zq_v, zq_w, zq_x, zq_y, zq_z, zq_A, zq_B, zq_C, zq_D, zq_E, zq_F, zq_G, zq_H, zq_I, zq_J, zq_K, zq_L, ↓zq_M, ↓zq_N, ↓zq_O, ↓zq_P, ↓zq_Q, ↓zq_R, zq_S, zq_T, zq_U, zq_V, zq_W, zq_X, zq_Y, zq_Z, zq_0, zq_1, zq_2, zq_3, zq_4, zq_5, ↓zq_6, ↓zq_7, ↓zq_8, ↓zq_9, ↓zq_aa, zq_ab, zq_ac, zq_ad, zq_ae, zq_af, zq_ag, ↓zq_ah, ↓zq_ai, ↓zq_aj, zq_ak, ↓zq_al, ↓zq_am, e_b1, e_b2, x_o1, x_o2, r_O0, w1, w2, w3, w4, l1, l2, q, c, k143]
      · by_cases e : y = m
        · exact absurd (by rw [e]; exact eD.trans c) h3
        · exact k2 y (by omega) h2 h3
    · have en : gd_n (ga_D g x) (m + 1) = gd_n (ga_D g x) m + 1 := gd_n_1 (fun e => c (eD.symm.trans e))
      obtain ⟨n14, hn14⟩ : ∃ n14 : Nat, d0 + gd_n (ga_D g x) m = n14 := ⟨_, rfl⟩
      rw [hn14] at h14 ⊢
      have b14 : n14 ≤ 47 := by omega
      have w6 : e_w (8 * x) = 8 * x := a_w_id (by omega) (by omega)
      have w7 : e_w (8 * x + x2) = 8 * x + x2 := a_w_id (by omega) (by omega)
      have st := r_st203 (i := (n14 : Int)) (v := 8 * x + x2) (M := M) (by omega) (by omega)
      rw [Int.toNat_natCast] at st
      have h13 : (e_up M 203 n14 (8 * x + x2)) 192 14 = (n14 : Int) := (c_up_n (by omega)).trans h14
      obtain ⟨M', k, k1, k2, k3⟩ := ih (m + 1) (x2 + 1) (e_up (e_up M 203 n14 (8 * x + x2)) 192 14 ((n14 : Int) + 1)) (by omega) (by omega) ((ga_G (fun id k a b e => by rw [c_up_n (by omega), c_up_n (by omega)])).trans hG) (by rw [c_up_s]; omega)
      refine ⟨M', ?_, k1, fun y h1 h2' h3 => ?_, fun id k a b => ?_⟩
      · have k143 : E_V 304 143 [192, x, x2] (e_up (e_up M 203 n14 (8 * x + x2)) 192 14 ((n14 : Int) + 1)) = some (0, M') := by
          rw [E_V_eq]
          show e_tv E_C (E_V 304) e_t304_143 [192, x, x2] (e_up (e_up M 203 n14 (8 * x + x2)) 192 14 ((n14 : Int) + 1)) = _
          unfold e_t304_143
          simp [zq_a, zq_b, zq_c, zq_d, zq_e, zq_f, zq_g, zq_h, zq_i, zq_j, zq_k, zq_l, zq_m, zq_n, zq_o, zq_p, zq_q, zq_r, zq_s, zq_t, zq_u, zq_v, zq_w, zq_x, zq_y, zq_z, zq_A, zq_B, zq_C, zq_D, zq_E, zq_F, zq_G, zq_H, zq_I, zq_J, zq_K, zq_L, ↓zq_M, ↓zq_N, ↓zq_O, ↓zq_P, ↓zq_Q, ↓zq_R, zq_S, zq_T, zq_U, zq_V, zq_W, zq_X, zq_Y, zq_Z, zq_0, zq_1, zq_2, zq_3, zq_4, zq_5, ↓zq_6, ↓zq_7, ↓zq_8, ↓zq_9, ↓zq_aa, zq_ab, zq_ac, zq_ad, zq_ae, zq_af, zq_ag, ↓zq_ah, ↓zq_ai, ↓zq_aj, zq_ak, ↓zq_al, ↓zq_am, e_b1, e_b2, x_o1, x_o2, w5, k]
        have w8 : e_w ((n14 : Int) + 1) = (n14 : Int) + 1 := a_w_id (by omega) (by omega)
        clear k k1 k2 k3 ih mm en hn14
        generalize (n14 : Int) = nn at *
        rw [E_V_eq]
        show e_tv E_C (E_V 304) e_t304_82 [192, x, x2] M = _
        unfold e_t304_82
        simp [zq_a, zq_b, zq_c, zq_d, zq_e, zq_f, zq_g, zq_h, zq_i, zq_j, zq_k, zq_l, zq_m, zq_n, zq_o, zq_p, zq_q, zq_r, zq_s, zq_t, zq_u, zq_v, zq_w, zq_x, zq_y, zq_z, zq_A, zq_B, zq_C, zq_D, zq_E, zq_F, zq_G, zq_H, zq_I, zq_J, zq_K, zq_L, ↓zq_M, ↓zq_N, ↓zq_O, ↓zq_P, ↓zq_Q, ↓zq_R, zq_S, zq_T, zq_U, zq_V, zq_W, zq_X, zq_Y, zq_Z, zq_0, zq_1, zq_2, zq_3, zq_4, zq_5, ↓zq_6, ↓zq_7, ↓zq_8, ↓zq_9, ↓zq_aa, zq_ab, zq_ac, zq_ad, zq_ae, zq_af, zq_ag, ↓zq_ah, ↓zq_ai, ↓zq_aj, zq_ak, ↓zq_al, ↓zq_am, e_b1, e_b2, x_o1, x_o2, r_O0, r_O12, r_F14, r_P14, w1, w2, w3, w4, w6, w7, w8, l1, l2, q, c, h14, h13, st, k143]
      · by_cases e : y = m
        · subst e
          rw [hn14, k3 _ _ (by omega) (by omega), c_up_n (by omega), c_up_s, h2]
        · exact k2 y (by omega) h2' h3
      · rw [k3 _ _ (by omega) (by omega), c_up_n (by omega), c_up_n (by omega)]
theorem ga_40_304 {g : Int → Int} {x : Int} {c0 n : Nat} (hx : 0 ≤ x ∧ x < 40) (hn : g (28 * x + 2) = n) (hn8 : n ≤ 8) (hc : c0 + n ≤ 48) : ∀ (t m : Nat) (x2 : Int) (M : EM), x2 = m → m + t = n → r_G M = g → M 192 13 = ((c0 + m : Nat) : Int) → ∃ M1, E_V 304 40 [192, x, x2] M = E_V 304 82 [192, x, 0] M1 ∧ M1 192 13 = ((c0 + n : Nat) : Int) ∧ (∀ k : Nat, m ≤ k → k < n → M1 202 (c0 + k) = g (28 * x + 3 + (k : Int))) ∧ ∀ id k, ¬ (id = 202 ∧ c0 + m ≤ k) → ¬ (id = 192 ∧ k = 13) → M1 id k = M id k := by
  intro t
  induction t with
  | zero =>
    intro m x2 M h2 hm hG h13
    have e : m = n := by omega
    subst e
    have km : E_C 171 [192, x] M = some (g (28 * x + 2), M) := by rw [← hG]; exact r_many hx
    have q : ¬ (x2 < g (28 * x + 2)) := by omega
    refine ⟨M, ?_, h13, fun y h1 h2 => absurd h1 (by omega), fun _ _ _ _ => rfl⟩
    clear h13 hc
    rw [E_V_eq]
    show e_tv E_C (E_V 304) e_t304_40 [192, x, x2] M = _
    unfold e_t304_40
    simp [zq_a, zq_b, zq_c, zq_d, zq_e, zq_f, zq_g, zq_h, zq_i, zq_j, zq_k, zq_l, zq_m, zq_n, zq_o, zq_p, zq_q, zq_r, zq_s, zq_t, zq_u, zq_v, zq_w, zq_x, zq_y, zq_z, zq_A, zq_B, zq_C, zq_D, zq_E, zq_F, zq_G, zq_H, zq_I, zq_J, zq_K, zq_L, ↓zq_M, ↓zq_N, ↓zq_O, ↓zq_P, ↓zq_Q, ↓zq_R, zq_S, zq_T, zq_U, zq_V, zq_W, zq_X, zq_Y, zq_Z, zq_0, zq_1, zq_2, zq_3, zq_4, zq_5, ↓zq_6, ↓zq_7, ↓zq_8, ↓zq_9, ↓zq_aa, zq_ab, zq_ac, zq_ad, zq_ae, zq_af, zq_ag, ↓zq_ah, ↓zq_ai, ↓zq_aj, zq_ak, ↓zq_al, ↓zq_am, e_b1, e_b2, x_o1, x_o2, km, q]
  | succ t ih =>
    intro m x2 M h2 hm hG h13
    have km : E_C 171 [192, x] M = some (g (28 * x + 2), M) := by rw [← hG]; exact r_many hx
    have ko : E_C 172 [192, x, x2] M = some (g (28 * x + 3 + x2), M) := by rw [← hG]; exact r_of hx ⟨by omega, by omega⟩
    have q : x2 < g (28 * x + 2) := by omega
    have w5 : e_w (x2 + 1) = x2 + 1 := a_w_id (by omega) (by omega)
    obtain ⟨n13, hn13⟩ : ∃ n13 : Nat, c0 + m = n13 := ⟨_, rfl⟩
    rw [hn13] at h13 ⊢
    have st := r_st202 (i := (n13 : Int)) (v := g (28 * x + 3 + x2)) (M := M) (by omega) (by omega)
    rw [Int.toNat_natCast] at st
    have h13' : (e_up M 202 n13 (g (28 * x + 3 + x2))) 192 13 = (n13 : Int) := (c_up_n (by omega)).trans h13
    obtain ⟨M', k, k1, k2, k3⟩ := ih (m + 1) (x2 + 1) (e_up (e_up M 202 n13 (g (28 * x + 3 + x2))) 192 13 ((n13 : Int) + 1)) (by omega) (by omega) ((ga_G (fun id k a b e => by rw [c_up_n (by omega), c_up_n (by omega)])).trans hG) (by rw [c_up_s]; omega)
    refine ⟨M', ?_, k1, fun y h1 h2' => ?_, fun id k a b => ?_⟩
    · rw [← k]
      have w8 : e_w ((n13 : Int) + 1) = (n13 : Int) + 1 := a_w_id (by omega) (by omega)
      clear k k1 k2 k3 ih hn13
      generalize (n13 : Int) = nn at *
      rw [E_V_eq]
      show e_tv E_C (E_V 304) e_t304_40 [192, x, x2] M = _
      unfold e_t304_40
      simp [zq_a, zq_b, zq_c, zq_d, zq_e, zq_f, zq_g, zq_h, zq_i, zq_j, zq_k, zq_l, zq_m, zq_n, zq_o, zq_p, zq_q, zq_r, zq_s, zq_t, zq_u, zq_v, zq_w, zq_x, zq_y, zq_z, zq_A, zq_B, zq_C, zq_D, zq_E, zq_F, zq_G, zq_H, zq_I, zq_J, zq_K, zq_L, ↓zq_M, ↓zq_N, ↓zq_O, ↓zq_P, ↓zq_Q, ↓zq_R, zq_S, zq_T, zq_U, zq_V, zq_W, zq_X, zq_Y, zq_Z, zq_0, zq_1, zq_2, zq_3, zq_4, zq_5, ↓zq_6, ↓zq_7, ↓zq_8, ↓zq_9, ↓zq_aa, zq_ab, zq_ac, zq_ad, zq_ae, zq_af, zq_ag, ↓zq_ah, ↓zq_ai, ↓zq_aj, zq_ak, ↓zq_al, ↓zq_am, e_b1, e_b2, x_o1, x_o2, r_O11, r_F13, r_P13, w5, w8, km, ko, q, h13, h13', st]
    · by_cases e : y = m
      · subst e
        rw [hn13, k3 _ _ (by omega) (by omega), c_up_n (by omega), c_up_s, h2]
      · exact k2 y (by omega) h2'
    · rw [k3 _ _ (by omega) (by omega), c_up_n (by omega), c_up_n (by omega)]
theorem ga_lo_304 {g : Int → Int} {b x : Int} {c d : Nat} {M : EM} (hb : b ≤ 40) (hr : r_cl g b x ∨ r_rw g b x) (hc : c + bx_nc g x ≤ 48) (hd : d + ga_nd g x ≤ 48) (hG : r_G M = g) (h13 : M 192 13 = c) (h14 : M 192 14 = d) : ∃ M', E_C 304 [192, x] M = some (0, M') ∧ ga_A g M M' x c d := by
  have h40 := r_lo_p hb hr
  have kk : E_C 170 [192, x] M = some (g (28 * x), M) := by rw [← hG]; exact r_kind h40
  unfold ga_A
  rcases hr with hr | hr
  · have a3 := hr.2.2.1
    have en : bx_nc g x = 1 := if_pos a3
    have ed : ga_nd g x = 0 := if_pos a3
    rw [en] at hc ⊢
    rw [ed]
    have st := r_st202 (i := (c : Int)) (v := x) (M := M) (by omega) (by omega)
    rw [Int.toNat_natCast] at st
    have h13' : (e_up M 202 c x) 192 13 = (c : Int) := (c_up_n (by omega)).trans h13
    refine ⟨e_up (e_up M 202 c x) 192 13 ((c : Int) + 1), ?_, by rw [c_up_s]; omega, ?_, fun k hk => ?_, fun y hy => absurd a3 hy, fun id k i1 i2 i3 => ?_⟩
    · have w8 : e_w ((c : Int) + 1) = (c : Int) + 1 := a_w_id (by omega) (by omega)
      clear hc hd
      generalize (c : Int) = nn at *
      rw [r_ent (show e_rok 304 [192, x] = true from decide_eq_true r_ref)]
      show e_tv E_C (E_V 304) e_t304_0 [192, x, 0] M = _
      unfold e_t304_0
      simp [zq_a, zq_b, zq_c, zq_d, zq_e, zq_f, zq_g, zq_h, zq_i, zq_j, zq_k, zq_l, zq_m, zq_n, zq_o, zq_p, zq_q, zq_r, zq_s, zq_t, zq_u, zq_v, zq_w, zq_x, zq_y, zq_z, zq_A, zq_B, zq_C, zq_D, zq_E, zq_F, zq_G, zq_H, zq_I, zq_J, zq_K, zq_L, ↓zq_M, ↓zq_N, ↓zq_O, ↓zq_P, ↓zq_Q, ↓zq_R, zq_S, zq_T, zq_U, zq_V, zq_W, zq_X, zq_Y, zq_Z, zq_0, zq_1, zq_2, zq_3, zq_4, zq_5, ↓zq_6, ↓zq_7, ↓zq_8, ↓zq_9, ↓zq_aa, zq_ab, zq_ac, zq_ad, zq_ae, zq_af, zq_ag, ↓zq_ah, ↓zq_ai, ↓zq_aj, zq_ak, ↓zq_al, ↓zq_am, e_b1, e_b2, x_o1, x_o2, r_O11, r_F13, r_P13, kk, a3, w8, h13, h13', st]
    · rw [c_up_n (by omega), c_up_n (by omega), h14, Nat.add_zero]
    · have e : k = 0 := by omega
      subst e
      rw [c_up_n (by omega), Nat.add_zero, c_up_s]
      exact (if_pos a3).symm
    · rw [c_up_n (by omega), c_up_n (by omega)]
  · obtain ⟨a1, a2, a3, a4, a5, a6, a7, a8⟩ := hr
    have k0 : ¬ g (28 * x) = 0 := by omega
    obtain ⟨n, hn⟩ : ∃ n : Nat, g (28 * x + 2) = n := ⟨(g (28 * x + 2)).toNat, by omega⟩
    obtain ⟨gr, hgr⟩ : ∃ gr : Nat, g (28 * x + 19) = gr := ⟨(g (28 * x + 19)).toNat, by omega⟩
    have en : bx_nc g x = n := by
      unfold bx_nc
      rw [if_neg k0, hn, Int.toNat_natCast]
    have ed : ga_nd g x = gd_n (ga_D g x) gr := by
      unfold ga_nd
      rw [if_neg k0, hgr, Int.toNat_natCast]
    rw [en] at hc ⊢
    rw [ed] at hd ⊢
    rw [hgr, Int.toNat_natCast]
    obtain ⟨M1, k1, s1, s2, s3⟩ := ga_40_304 (c0 := c) h40 hn (by omega) hc n 0 0 M rfl (by omega) hG h13
    obtain ⟨M2, k2, t1, t2, t3⟩ := ga_82_304 (d0 := d) h40 hgr (by omega) hd gr 0 0 M1 rfl (by omega) ((ga_G (fun id k a b e => s3 _ _ (by omega) (by omega))).trans hG) ((s3 _ _ (by omega) (by omega)).trans h14)
    have t3' : ∀ id k, ¬ (id = 203 ∧ d ≤ k) → ¬ (id = 192 ∧ k = 14) → M2 id k = M1 id k := fun id k i1 i2 => t3 id k (fun e => i1 ⟨e.1, by have := e.2; show d + gd_n (ga_D g x) 0 ≤ k; exact this⟩) i2
    have s3' : ∀ id k, ¬ (id = 202 ∧ c ≤ k) → ¬ (id = 192 ∧ k = 13) → M1 id k = M id k := fun id k i1 i2 => s3 id k i1 i2
    refine ⟨M2, ?_, (t3' _ _ (by omega) (by omega)).trans s1, t1, fun k hk => ?_, fun y _ hy hz => t2 y (Nat.zero_le _) hy hz, fun id k i1 i2 i3 => (t3' _ _ (by omega) (by omega)).trans (s3' _ _ (by omega) (by omega))⟩
    · have k3 := k1.trans k2
      rw [r_ent (show e_rok 304 [192, x] = true from decide_eq_true r_ref)]
      show e_tv E_C (E_V 304) e_t304_0 [192, x, 0] M = _
      unfold e_t304_0
      simp [zq_a, zq_b, zq_c, zq_d, zq_e, zq_f, zq_g, zq_h, zq_i, zq_j, zq_k, zq_l, zq_m, zq_n, zq_o, zq_p, zq_q, zq_r, zq_s, zq_t, zq_u, zq_v, zq_w, zq_x, zq_y, zq_z, zq_A, zq_B, zq_C, zq_D, zq_E, zq_F, zq_G, zq_H, zq_I, zq_J, zq_K, zq_L, ↓zq_M, ↓zq_N, ↓zq_O, ↓zq_P, ↓zq_Q, ↓zq_R, zq_S, zq_T, zq_U, zq_V, zq_W, zq_X, zq_Y, zq_Z, zq_0, zq_1, zq_2, zq_3, zq_4, zq_5, ↓zq_6, ↓zq_7, ↓zq_8, ↓zq_9, ↓zq_aa, zq_ab, zq_ac, zq_ad, zq_ae, zq_af, zq_ag, ↓zq_ah, ↓zq_ai, ↓zq_aj, zq_ak, ↓zq_al, ↓zq_am, e_b1, e_b2, x_o1, x_o2, kk, a3, k3]
    · rw [t3' _ _ (by omega) (by omega), s2 k (Nat.zero_le _) hk]
      exact (if_neg k0).symm
theorem ga_82_176 {g : Int → Int} {x : Int} {d0 gr : Nat} (hx : 0 ≤ x ∧ x < 40) (hg : g (28 * x + 19) = gr) (hg8 : gr ≤ 8) (hd : d0 + gd_n (ga_D g x) gr ≤ 48) : ∀ (t m : Nat) (x2 : Int) (M : EM), x2 = m → m + t = gr → r_G M = g → M 192 14 = ((d0 + gd_n (ga_D g x) m : Nat) : Int) → ∃ M', E_V 176 82 [192, x, x2] M = some (0, M') ∧ M' 192 14 = ((d0 + gd_n (ga_D g x) gr : Nat) : Int) ∧ (∀ y : Nat, m ≤ y → y < gr → ga_D g x y ≠ 0 → M' 203 (d0 + gd_n (ga_D g x) y) = 8 * x + (y : Int)) ∧ ∀ id k, ¬ (id = 203 ∧ d0 + gd_n (ga_D g x) m ≤ k) → ¬ (id = 192 ∧ k = 14) → M' id k = M id k := by
  have w1 : e_w (28 * x) = 28 * x := a_w_id (by omega) (by omega)
  have w2 : e_w (28 * x + 19) = 28 * x + 19 := a_w_id (by omega) (by omega)
  have w3 : e_w (28 * x + 20) = 28 * x + 20 := a_w_id (by omega) (by omega)
  intro t
  induction t with
  | zero =>
    intro m x2 M h2 hm hG h14
    have e : m = gr := by omega
    subst e
    have l1 : e_op 60 [193, 28 * x + 19] M = some (g (28 * x + 19)) := (r_rd (by omega) (by omega)).trans (congrArg some (congrFun hG _))
    have q : ¬ (x2 < g (28 * x + 19)) := by omega
    refine ⟨M, ?_, h14, fun y h1 h2 => absurd h1 (by omega), fun _ _ _ _ => rfl⟩
    clear h14 hd
    rw [E_V_eq]
    show e_tv E_C (E_V 176) e_t176_82 [192, x, x2] M = _
    unfold e_t176_82
    simp [zq_a, zq_b, zq_c, zq_d, zq_e, zq_f, zq_g, zq_h, zq_i, zq_j, zq_k, zq_l, zq_m, zq_n, zq_o, zq_p, zq_q, zq_r, zq_s, zq_t, zq_u, zq_v, zq_w, zq_x, zq_y, zq_z, zq_A, zq_B, zq_C, zq_D, zq_E, zq_F, zq_G, zq_H, zq_I, zq_J, zq_K, zq_L, ↓zq_M, ↓zq_N, ↓zq_O, ↓zq_P, ↓zq_Q, ↓zq_R, zq_S, zq_T, zq_U, zq_V, zq_W, zq_X, zq_Y, zq_Z, zq_0, zq_1, zq_2, zq_3, zq_4, zq_5, ↓zq_6, ↓zq_7, ↓zq_8, ↓zq_9, ↓zq_aa, zq_ab, zq_ac, zq_ad, zq_ae, zq_af, zq_ag, ↓zq_ah, ↓zq_ai, ↓zq_aj, zq_ak, ↓zq_al, ↓zq_am, e_b1, e_b2, x_o1, x_o2, r_O0, w1, w2, l1, q]
  | succ t ih =>
    intro m x2 M h2 hm hG h14
    have l1 : e_op 60 [193, 28 * x + 19] M = some (g (28 * x + 19)) := (r_rd (by omega) (by omega)).trans (congrArg some (congrFun hG _))
    have l2 : e_op 60 [193, 28 * x + 20 + x2] M = some (g (28 * x + 20 + x2)) := (r_rd (by omega) (by omega)).trans (congrArg some (congrFun hG _))
    have q : x2 < g (28 * x + 19) := by omega
    have w4 : e_w (28 * x + 20 + x2) = 28 * x + 20 + x2 := a_w_id (by omega) (by omega)
    have w5 : e_w (x2 + 1) = x2 + 1 := a_w_id (by omega) (by omega)
    have eD : ga_D g x m = g (28 * x + 20 + x2) := by unfold ga_D; rw [h2]
    have mm := gd_n_m (D := ga_D g x) (m := m + 1) t
    rw [show m + 1 + t = gr by omega] at mm
    by_cases c : g (28 * x + 20 + x2) = 0
    · have en : gd_n (ga_D g x) (m + 1) = gd_n (ga_D g x) m := gd_n_0 (eD.trans c)
      obtain ⟨M', k, k1, k2, k3⟩ := ih (m + 1) (x2 + 1) M (by omega) (by omega) hG (by rw [en]; exact h14)
      rw [en] at k3
      refine ⟨M', ?_, k1, fun y h1 h2 h3 => ?_, k3⟩
      · have k143 : E_V 176 143 [192, x, x2] M = some (0, M') := by
          rw [E_V_eq]
          show e_tv E_C (E_V 176) e_t176_143 [192, x, x2] M = _
          unfold e_t176_143
          simp [zq_a, zq_b, zq_c, zq_d, zq_e, zq_f, zq_g, zq_h, zq_i, zq_j, zq_k, zq_l, zq_m, zq_n, zq_o, zq_p, zq_q, zq_r, zq_s, zq_t, zq_u, zq_v, zq_w, zq_x, zq_y, zq_z, zq_A, zq_B, zq_C, zq_D, zq_E, zq_F, zq_G, zq_H, zq_I, zq_J, zq_K, zq_L, ↓zq_M, ↓zq_N, ↓zq_O, ↓zq_P, ↓zq_Q, ↓zq_R, zq_S, zq_T, zq_U, zq_V, zq_W, zq_X, zq_Y, zq_Z, zq_0, zq_1, zq_2, zq_3, zq_4, zq_5, ↓zq_6, ↓zq_7, ↓zq_8, ↓zq_9, ↓zq_aa, zq_ab, zq_ac, zq_ad, zq_ae, zq_af, zq_ag, ↓zq_ah, ↓zq_ai, ↓zq_aj, zq_ak, ↓zq_al, ↓zq_am, e_b1, e_b2, x_o1, x_o2, w5, k]
        rw [E_V_eq]
        show e_tv E_C (E_V 176) e_t176_82 [192, x, x2] M = _
        unfold e_t176_82
        simp [zq_a, zq_b, zq_c, zq_d, zq_e, zq_f, zq_g, zq_h, zq_i, zq_j, zq_k, zq_l, zq_m, zq_n, zq_o, zq_p, zq_q, zq_r, zq_s, zq_t, zq_u, zq_v, zq_w, zq_x, zq_y, zq_z, zq_A, zq_B, zq_C, zq_D, zq_E, zq_F, zq_G, zq_H, zq_I, zq_J, zq_K, zq_L, ↓zq_M, ↓zq_N, ↓zq_O, ↓zq_P, ↓zq_Q, ↓zq_R, zq_S, zq_T, zq_U, zq_V, zq_W, zq_X, zq_Y, zq_Z, zq_0, zq_1, zq_2, zq_3, zq_4, zq_5, ↓zq_6, ↓zq_7, ↓zq_8, ↓zq_9, ↓zq_aa, zq_ab, zq_ac, zq_ad, zq_ae, zq_af, zq_ag, ↓zq_ah, ↓zq_ai, ↓zq_aj, zq_ak, ↓zq_al, ↓zq_am, e_b1, e_b2, x_o1, x_o2, r_O0, w1, w2, w3, w4, l1, l2, q, c, k143]
      · by_cases e : y = m
        · exact absurd (by rw [e]; exact eD.trans c) h3
        · exact k2 y (by omega) h2 h3
    · have en : gd_n (ga_D g x) (m + 1) = gd_n (ga_D g x) m + 1 := gd_n_1 (fun e => c (eD.symm.trans e))
      obtain ⟨n14, hn14⟩ : ∃ n14 : Nat, d0 + gd_n (ga_D g x) m = n14 := ⟨_, rfl⟩
      rw [hn14] at h14 ⊢
      have b14 : n14 ≤ 47 := by omega
      have w6 : e_w (8 * x) = 8 * x := a_w_id (by omega) (by omega)
      have w7 : e_w (8 * x + x2) = 8 * x + x2 := a_w_id (by omega) (by omega)
      have st := r_st203 (i := (n14 : Int)) (v := 8 * x + x2) (M := M) (by omega) (by omega)
      rw [Int.toNat_natCast] at st
      have h13 : (e_up M 203 n14 (8 * x + x2)) 192 14 = (n14 : Int) := (c_up_n (by omega)).trans h14
      obtain ⟨M', k, k1, k2, k3⟩ := ih (m + 1) (x2 + 1) (e_up (e_up M 203 n14 (8 * x + x2)) 192 14 ((n14 : Int) + 1)) (by omega) (by omega) ((ga_G (fun id k a b e => by rw [c_up_n (by omega), c_up_n (by omega)])).trans hG) (by rw [c_up_s]; omega)
      refine ⟨M', ?_, k1, fun y h1 h2' h3 => ?_, fun id k a b => ?_⟩
      · have k143 : E_V 176 143 [192, x, x2] (e_up (e_up M 203 n14 (8 * x + x2)) 192 14 ((n14 : Int) + 1)) = some (0, M') := by
          rw [E_V_eq]
          show e_tv E_C (E_V 176) e_t176_143 [192, x, x2] (e_up (e_up M 203 n14 (8 * x + x2)) 192 14 ((n14 : Int) + 1)) = _
          unfold e_t176_143
          simp [zq_a, zq_b, zq_c, zq_d, zq_e, zq_f, zq_g, zq_h, zq_i, zq_j, zq_k, zq_l, zq_m, zq_n, zq_o, zq_p, zq_q, zq_r, zq_s, zq_t, zq_u, zq_v, zq_w, zq_x, zq_y, zq_z, zq_A, zq_B, zq_C, zq_D, zq_E, zq_F, zq_G, zq_H, zq_I, zq_J, zq_K, zq_L, ↓zq_M, ↓zq_N, ↓zq_O, ↓zq_P, ↓zq_Q, ↓zq_R, zq_S, zq_T, zq_U, zq_V, zq_W, zq_X, zq_Y, zq_Z, zq_0, zq_1, zq_2, zq_3, zq_4, zq_5, ↓zq_6, ↓zq_7, ↓zq_8, ↓zq_9, ↓zq_aa, zq_ab, zq_ac, zq_ad, zq_ae, zq_af, zq_ag, ↓zq_ah, ↓zq_ai, ↓zq_aj, zq_ak, ↓zq_al, ↓zq_am, e_b1, e_b2, x_o1, x_o2, w5, k]
        have w8 : e_w ((n14 : Int) + 1) = (n14 : Int) + 1 := a_w_id (by omega) (by omega)
        clear k k1 k2 k3 ih mm en hn14
        generalize (n14 : Int) = nn at *
        rw [E_V_eq]
        show e_tv E_C (E_V 176) e_t176_82 [192, x, x2] M = _
        unfold e_t176_82
        simp [zq_a, zq_b, zq_c, zq_d, zq_e, zq_f, zq_g, zq_h, zq_i, zq_j, zq_k, zq_l, zq_m, zq_n, zq_o, zq_p, zq_q, zq_r, zq_s, zq_t, zq_u, zq_v, zq_w, zq_x, zq_y, zq_z, zq_A, zq_B, zq_C, zq_D, zq_E, zq_F, zq_G, zq_H, zq_I, zq_J, zq_K, zq_L, ↓zq_M, ↓zq_N, ↓zq_O, ↓zq_P, ↓zq_Q, ↓zq_R, zq_S, zq_T, zq_U, zq_V, zq_W, zq_X, zq_Y, zq_Z, zq_0, zq_1, zq_2, zq_3, zq_4, zq_5, ↓zq_6, ↓zq_7, ↓zq_8, ↓zq_9, ↓zq_aa, zq_ab, zq_ac, zq_ad, zq_ae, zq_af, zq_ag, ↓zq_ah, ↓zq_ai, ↓zq_aj, zq_ak, ↓zq_al, ↓zq_am, e_b1, e_b2, x_o1, x_o2, r_O0, r_O12, r_F14, r_P14, w1, w2, w3, w4, w6, w7, w8, l1, l2, q, c, h14, h13, st, k143]
      · by_cases e : y = m
        · subst e
          rw [hn14, k3 _ _ (by omega) (by omega), c_up_n (by omega), c_up_s, h2]
        · exact k2 y (by omega) h2' h3
      · rw [k3 _ _ (by omega) (by omega), c_up_n (by omega), c_up_n (by omega)]
theorem ga_40_176 {g : Int → Int} {x : Int} {c0 n : Nat} (hx : 0 ≤ x ∧ x < 40) (hn : g (28 * x + 2) = n) (hn8 : n ≤ 8) (hc : c0 + n ≤ 48) : ∀ (t m : Nat) (x2 : Int) (M : EM), x2 = m → m + t = n → r_G M = g → M 192 13 = ((c0 + m : Nat) : Int) → ∃ M1, E_V 176 40 [192, x, x2] M = E_V 176 82 [192, x, 0] M1 ∧ M1 192 13 = ((c0 + n : Nat) : Int) ∧ (∀ k : Nat, m ≤ k → k < n → M1 202 (c0 + k) = g (28 * x + 3 + (k : Int))) ∧ ∀ id k, ¬ (id = 202 ∧ c0 + m ≤ k) → ¬ (id = 192 ∧ k = 13) → M1 id k = M id k := by
  intro t
  induction t with
  | zero =>
    intro m x2 M h2 hm hG h13
    have e : m = n := by omega
    subst e
    have km : E_C 171 [192, x] M = some (g (28 * x + 2), M) := by rw [← hG]; exact r_many hx
    have q : ¬ (x2 < g (28 * x + 2)) := by omega
    refine ⟨M, ?_, h13, fun y h1 h2 => absurd h1 (by omega), fun _ _ _ _ => rfl⟩
    clear h13 hc
    rw [E_V_eq]
    show e_tv E_C (E_V 176) e_t176_40 [192, x, x2] M = _
    unfold e_t176_40
    simp [zq_a, zq_b, zq_c, zq_d, zq_e, zq_f, zq_g, zq_h, zq_i, zq_j, zq_k, zq_l, zq_m, zq_n, zq_o, zq_p, zq_q, zq_r, zq_s, zq_t, zq_u, zq_v, zq_w, zq_x, zq_y, zq_z, zq_A, zq_B, zq_C, zq_D, zq_E, zq_F, zq_G, zq_H, zq_I, zq_J, zq_K, zq_L, ↓zq_M, ↓zq_N, ↓zq_O, ↓zq_P, ↓zq_Q, ↓zq_R, zq_S, zq_T, zq_U, zq_V, zq_W, zq_X, zq_Y, zq_Z, zq_0, zq_1, zq_2, zq_3, zq_4, zq_5, ↓zq_6, ↓zq_7, ↓zq_8, ↓zq_9, ↓zq_aa, zq_ab, zq_ac, zq_ad, zq_ae, zq_af, zq_ag, ↓zq_ah, ↓zq_ai, ↓zq_aj, zq_ak, ↓zq_al, ↓zq_am, e_b1, e_b2, x_o1, x_o2, km, q]
  | succ t ih =>
    intro m x2 M h2 hm hG h13
    have km : E_C 171 [192, x] M = some (g (28 * x + 2), M) := by rw [← hG]; exact r_many hx
    have ko : E_C 172 [192, x, x2] M = some (g (28 * x + 3 + x2), M) := by rw [← hG]; exact r_of hx ⟨by omega, by omega⟩
    have q : x2 < g (28 * x + 2) := by omega
    have w5 : e_w (x2 + 1) = x2 + 1 := a_w_id (by omega) (by omega)
    obtain ⟨n13, hn13⟩ : ∃ n13 : Nat, c0 + m = n13 := ⟨_, rfl⟩
    rw [hn13] at h13 ⊢
    have st := r_st202 (i := (n13 : Int)) (v := g (28 * x + 3 + x2)) (M := M) (by omega) (by omega)
    rw [Int.toNat_natCast] at st
    have h13' : (e_up M 202 n13 (g (28 * x + 3 + x2))) 192 13 = (n13 : Int) := (c_up_n (by omega)).trans h13
    obtain ⟨M', k, k1, k2, k3⟩ := ih (m + 1) (x2 + 1) (e_up (e_up M 202 n13 (g (28 * x + 3 + x2))) 192 13 ((n13 : Int) + 1)) (by omega) (by omega) ((ga_G (fun id k a b e => by rw [c_up_n (by omega), c_up_n (by omega)])).trans hG) (by rw [c_up_s]; omega)
    refine ⟨M', ?_, k1, fun y h1 h2' => ?_, fun id k a b => ?_⟩
    · rw [← k]
      have w8 : e_w ((n13 : Int) + 1) = (n13 : Int) + 1 := a_w_id (by omega) (by omega)
      clear k k1 k2 k3 ih hn13
      generalize (n13 : Int) = nn at *
      rw [E_V_eq]
      show e_tv E_C (E_V 176) e_t176_40 [192, x, x2] M = _
      unfold e_t176_40
      simp [zq_a, zq_b, zq_c, zq_d, zq_e, zq_f, zq_g, zq_h, zq_i, zq_j, zq_k, zq_l, zq_m, zq_n, zq_o, zq_p, zq_q, zq_r, zq_s, zq_t, zq_u, zq_v, zq_w, zq_x, zq_y, zq_z, zq_A, zq_B, zq_C, zq_D, zq_E, zq_F, zq_G, zq_H, zq_I, zq_J, zq_K, zq_L, ↓zq_M, ↓zq_N, ↓zq_O, ↓zq_P, ↓zq_Q, ↓zq_R, zq_S, zq_T, zq_U, zq_V, zq_W, zq_X, zq_Y, zq_Z, zq_0, zq_1, zq_2, zq_3, zq_4, zq_5, ↓zq_6, ↓zq_7, ↓zq_8, ↓zq_9, ↓zq_aa, zq_ab, zq_ac, zq_ad, zq_ae, zq_af, zq_ag, ↓zq_ah, ↓zq_ai, ↓zq_aj, zq_ak, ↓zq_al, ↓zq_am, e_b1, e_b2, x_o1, x_o2, r_O11, r_F13, r_P13, w5, w8, km, ko, q, h13, h13', st]
    · by_cases e : y = m
      · subst e
        rw [hn13, k3 _ _ (by omega) (by omega), c_up_n (by omega), c_up_s, h2]
      · exact k2 y (by omega) h2'
    · rw [k3 _ _ (by omega) (by omega), c_up_n (by omega), c_up_n (by omega)]
theorem ga_lo_176 {g : Int → Int} {b x : Int} {c d : Nat} {M : EM} (hb : b ≤ 40) (hr : r_cl g b x ∨ r_rw g b x) (hc : c + bx_nc g x ≤ 48) (hd : d + ga_nd g x ≤ 48) (hG : r_G M = g) (h13 : M 192 13 = c) (h14 : M 192 14 = d) : ∃ M', E_C 176 [192, x] M = some (0, M') ∧ ga_A g M M' x c d := by
  have h40 := r_lo_p hb hr
  have kk : E_C 170 [192, x] M = some (g (28 * x), M) := by rw [← hG]; exact r_kind h40
  unfold ga_A
  rcases hr with hr | hr
  · have a3 := hr.2.2.1
    have en : bx_nc g x = 1 := if_pos a3
    have ed : ga_nd g x = 0 := if_pos a3
    rw [en] at hc ⊢
    rw [ed]
    have st := r_st202 (i := (c : Int)) (v := x) (M := M) (by omega) (by omega)
    rw [Int.toNat_natCast] at st
    have h13' : (e_up M 202 c x) 192 13 = (c : Int) := (c_up_n (by omega)).trans h13
    refine ⟨e_up (e_up M 202 c x) 192 13 ((c : Int) + 1), ?_, by rw [c_up_s]; omega, ?_, fun k hk => ?_, fun y hy => absurd a3 hy, fun id k i1 i2 i3 => ?_⟩
    · have w8 : e_w ((c : Int) + 1) = (c : Int) + 1 := a_w_id (by omega) (by omega)
      clear hc hd
      generalize (c : Int) = nn at *
      rw [r_ent (show e_rok 176 [192, x] = true from decide_eq_true r_ref)]
      show e_tv E_C (E_V 176) e_t176_0 [192, x, 0] M = _
      unfold e_t176_0
      simp [zq_a, zq_b, zq_c, zq_d, zq_e, zq_f, zq_g, zq_h, zq_i, zq_j, zq_k, zq_l, zq_m, zq_n, zq_o, zq_p, zq_q, zq_r, zq_s, zq_t, zq_u, zq_v, zq_w, zq_x, zq_y, zq_z, zq_A, zq_B, zq_C, zq_D, zq_E, zq_F, zq_G, zq_H, zq_I, zq_J, zq_K, zq_L, ↓zq_M, ↓zq_N, ↓zq_O, ↓zq_P, ↓zq_Q, ↓zq_R, zq_S, zq_T, zq_U, zq_V, zq_W, zq_X, zq_Y, zq_Z, zq_0, zq_1, zq_2, zq_3, zq_4, zq_5, ↓zq_6, ↓zq_7, ↓zq_8, ↓zq_9, ↓zq_aa, zq_ab, zq_ac, zq_ad, zq_ae, zq_af, zq_ag, ↓zq_ah, ↓zq_ai, ↓zq_aj, zq_ak, ↓zq_al, ↓zq_am, e_b1, e_b2, x_o1, x_o2, r_O11, r_F13, r_P13, kk, a3, w8, h13, h13', st]
    · rw [c_up_n (by omega), c_up_n (by omega), h14, Nat.add_zero]
    · have e : k = 0 := by omega
      subst e
      rw [c_up_n (by omega), Nat.add_zero, c_up_s]
      exact (if_pos a3).symm
    · rw [c_up_n (by omega), c_up_n (by omega)]
  · obtain ⟨a1, a2, a3, a4, a5, a6, a7, a8⟩ := hr
    have k0 : ¬ g (28 * x) = 0 := by omega
    obtain ⟨n, hn⟩ : ∃ n : Nat, g (28 * x + 2) = n := ⟨(g (28 * x + 2)).toNat, by omega⟩
    obtain ⟨gr, hgr⟩ : ∃ gr : Nat, g (28 * x + 19) = gr := ⟨(g (28 * x + 19)).toNat, by omega⟩
    have en : bx_nc g x = n := by
      unfold bx_nc
      rw [if_neg k0, hn, Int.toNat_natCast]
    have ed : ga_nd g x = gd_n (ga_D g x) gr := by
      unfold ga_nd
      rw [if_neg k0, hgr, Int.toNat_natCast]
    rw [en] at hc ⊢
    rw [ed] at hd ⊢
    rw [hgr, Int.toNat_natCast]
    obtain ⟨M1, k1, s1, s2, s3⟩ := ga_40_176 (c0 := c) h40 hn (by omega) hc n 0 0 M rfl (by omega) hG h13
    obtain ⟨M2, k2, t1, t2, t3⟩ := ga_82_176 (d0 := d) h40 hgr (by omega) hd gr 0 0 M1 rfl (by omega) ((ga_G (fun id k a b e => s3 _ _ (by omega) (by omega))).trans hG) ((s3 _ _ (by omega) (by omega)).trans h14)
    have t3' : ∀ id k, ¬ (id = 203 ∧ d ≤ k) → ¬ (id = 192 ∧ k = 14) → M2 id k = M1 id k := fun id k i1 i2 => t3 id k (fun e => i1 ⟨e.1, by have := e.2; show d + gd_n (ga_D g x) 0 ≤ k; exact this⟩) i2
    have s3' : ∀ id k, ¬ (id = 202 ∧ c ≤ k) → ¬ (id = 192 ∧ k = 13) → M1 id k = M id k := fun id k i1 i2 => s3 id k i1 i2
    refine ⟨M2, ?_, (t3' _ _ (by omega) (by omega)).trans s1, t1, fun k hk => ?_, fun y _ hy hz => t2 y (Nat.zero_le _) hy hz, fun id k i1 i2 i3 => (t3' _ _ (by omega) (by omega)).trans (s3' _ _ (by omega) (by omega))⟩
    · have k3 := k1.trans k2
      rw [r_ent (show e_rok 176 [192, x] = true from decide_eq_true r_ref)]
      show e_tv E_C (E_V 176) e_t176_0 [192, x, 0] M = _
      unfold e_t176_0
      simp [zq_a, zq_b, zq_c, zq_d, zq_e, zq_f, zq_g, zq_h, zq_i, zq_j, zq_k, zq_l, zq_m, zq_n, zq_o, zq_p, zq_q, zq_r, zq_s, zq_t, zq_u, zq_v, zq_w, zq_x, zq_y, zq_z, zq_A, zq_B, zq_C, zq_D, zq_E, zq_F, zq_G, zq_H, zq_I, zq_J, zq_K, zq_L, ↓zq_M, ↓zq_N, ↓zq_O, ↓zq_P, ↓zq_Q, ↓zq_R, zq_S, zq_T, zq_U, zq_V, zq_W, zq_X, zq_Y, zq_Z, zq_0, zq_1, zq_2, zq_3, zq_4, zq_5, ↓zq_6, ↓zq_7, ↓zq_8, ↓zq_9, ↓zq_aa, zq_ab, zq_ac, zq_ad, zq_ae, zq_af, zq_ag, ↓zq_ah, ↓zq_ai, ↓zq_aj, zq_ak, ↓zq_al, ↓zq_am, e_b1, e_b2, x_o1, x_o2, kk, a3, k3]
    · rw [t3' _ _ (by omega) (by omega), s2 k (Nat.zero_le _) hk]
      exact (if_neg k0).symm
def ga_od (g : Int → Int) (X : Nat → Int) : Nat → Nat
  | 0 => 0
  | i + 1 => ga_od g X i + ga_nd g (X i)
/-- how things lie once l lines have come -/
def ga_B (g : Int → Int) (M M' : EM) (X : Nat → Int) (L : Nat) : Prop := M' 192 13 = (bx_oc g X L : Int) ∧ M' 192 14 = (ga_od g X L : Int) ∧ (∀ l k, l < L → k < bx_nc g (X l) → M' 202 (bx_oc g X l + k) = bx_ce g (X l) k) ∧ (∀ l (y : Nat), l < L → g (28 * X l) ≠ 0 → y < (g (28 * X l + 19)).toNat → ga_D g (X l) y ≠ 0 → M' 203 (ga_od g X l + gd_n (ga_D g (X l)) y) = 8 * X l + (y : Int)) ∧ ∀ id k, id ≠ 202 → id ≠ 203 → ¬ (id = 192 ∧ (k = 13 ∨ k = 14)) → M' id k = M id k
theorem ga_od_m {g : Int → Int} {X : Nat → Int} : ∀ d i, ga_od g X i ≤ ga_od g X (i + d) := by
  intro d
  induction d with
  | zero => intro i; exact Nat.le_refl _
  | succ d ih =>
    intro i
    have := ih i
    show ga_od g X i ≤ ga_od g X (i + d) + ga_nd g (X (i + d))
    omega
theorem ga_nd_le {g : Int → Int} {x : Int} : ga_nd g x ≤ bx_ng g x := by
  unfold ga_nd bx_ng
  split
  · omega
  · exact gd_n_le _
theorem ga_od_le {g : Int → Int} {X : Nat → Int} : ∀ L, ga_od g X L ≤ bx_og g X L := by
  intro L
  induction L with
  | zero => exact Nat.le_refl _
  | succ L ih =>
    have := ga_nd_le (g := g) (x := X L)
    show ga_od g X L + ga_nd g (X L) ≤ bx_og g X L + bx_ng g (X L)
    omega
theorem ga_dlt {g : Int → Int} {x : Int} {y : Nat} (h0 : g (28 * x) ≠ 0) (hy : y < (g (28 * x + 19)).toNat) (hD : ga_D g x y ≠ 0) : gd_n (ga_D g x) y + 1 ≤ ga_nd g x := by
  have a := gd_n_1 hD
  have b := gd_n_m (D := ga_D g x) (m := y + 1) ((g (28 * x + 19)).toNat - (y + 1))
  rw [show y + 1 + ((g (28 * x + 19)).toNat - (y + 1)) = (g (28 * x + 19)).toNat by omega, a] at b
  unfold ga_nd
  rw [if_neg h0]
  exact b
theorem ga_s {g : Int → Int} {M N N' : EM} {X : Nat → Int} {i : Nat} (h : ga_B g M N X i) (k : ga_A g N N' (X i) (bx_oc g X i) (ga_od g X i)) : ga_B g M N' X (i + 1) := by
  obtain ⟨a1, a2, a3, a4, a5⟩ := h
  obtain ⟨b1, b2, b3, b4, b5⟩ := k
  refine ⟨b1, b2, fun l k hl hk => ?_, fun l y hl h0 hy hD => ?_, fun id k i1 i2 i3 => (b5 _ _ (fun e => i1 e.1) (fun e => i2 e.1) i3).trans (a5 _ _ i1 i2 i3)⟩
  · by_cases e : l = i
    · subst e; exact b3 k hk
    · have m := bx_oc_m (g := g) (X := X) (i - (l + 1)) (l + 1)
      rw [show l + 1 + (i - (l + 1)) = i by omega] at m
      have m : bx_oc g X l + bx_nc g (X l) ≤ bx_oc g X i := m
      rw [b5 _ _ (by omega) (by omega) (by omega)]
      exact a3 l k (by omega) hk
  · by_cases e : l = i
    · subst e; exact b4 y h0 hy hD
    · have m := ga_od_m (g := g) (X := X) (i - (l + 1)) (l + 1)
      rw [show l + 1 + (i - (l + 1)) = i by omega] at m
      have m : ga_od g X l + ga_nd g (X l) ≤ ga_od g X i := m
      have z := ga_dlt h0 hy hD
      rw [b5 _ _ (by omega) (by omega) (by omega)]
      exact a4 l y (by omega) h0 hy hD
theorem ga_152_304 {g : Int → Int} {x : Int} {L : Nat} {M0 : EM} (hx : 0 ≤ x ∧ x < 40) (hn : g (28 * x + 2) = L) (hL6 : L ≤ 6) (hk : ∀ k, 0 ≤ k → k < g (28 * x + 2) → r_cl g x (g (28 * x + 3 + k)) ∨ r_rw g x (g (28 * x + 3 + k))) (hc : bx_oc g (fun l => g (28 * x + 3 + (l : Int))) L ≤ 48) (hd : ga_od g (fun l => g (28 * x + 3 + (l : Int))) L ≤ 48) : ∀ (t i : Nat) (x2 : Int) (M : EM), x2 = i → i + t = L → r_G M = g → ga_B g M0 M (fun l => g (28 * x + 3 + (l : Int))) i → ∃ M', E_V 304 152 [192, x, x2] M = some (0, M') ∧ ga_B g M0 M' (fun l => g (28 * x + 3 + (l : Int))) L := by
  intro t
  induction t with
  | zero =>
    intro i x2 M h2 hi hG hB
    have e : i = L := by omega
    subst e
    have km : E_C 171 [192, x] M = some (g (28 * x + 2), M) := by rw [← hG]; exact r_many hx
    have q : ¬ (x2 < g (28 * x + 2)) := by omega
    refine ⟨M, ?_, hB⟩
    clear hB hc hd hk
    rw [E_V_eq]
    show e_tv E_C (E_V 304) e_t304_152 [192, x, x2] M = _
    unfold e_t304_152
    simp [zq_a, zq_b, zq_c, zq_d, zq_e, zq_f, zq_g, zq_h, zq_i, zq_j, zq_k, zq_l, zq_m, zq_n, zq_o, zq_p, zq_q, zq_r, zq_s, zq_t, zq_u, zq_v, zq_w, zq_x, zq_y, zq_z, zq_A, zq_B, zq_C, zq_D, zq_E, zq_F, zq_G, zq_H, zq_I, zq_J, zq_K, zq_L, ↓zq_M, ↓zq_N, ↓zq_O, ↓zq_P, ↓zq_Q, ↓zq_R, zq_S, zq_T, zq_U, zq_V, zq_W, zq_X, zq_Y, zq_Z, zq_0, zq_1, zq_2, zq_3, zq_4, zq_5, ↓zq_6, ↓zq_7, ↓zq_8, ↓zq_9, ↓zq_aa, zq_ab, zq_ac, zq_ad, zq_ae, zq_af, zq_ag, ↓zq_ah, ↓zq_ai, ↓zq_aj, zq_ak, ↓zq_al, ↓zq_am, e_b1, e_b2, x_o1, x_o2, km, q]
  | succ t ih =>
    intro i x2 M h2 hi hG hB
    have km : E_C 171 [192, x] M = some (g (28 * x + 2), M) := by rw [← hG]; exact r_many hx
    have ko : E_C 172 [192, x, x2] M = some (g (28 * x + 3 + x2), M) := by rw [← hG]; exact r_of hx ⟨by omega, by omega⟩
    have q : x2 < g (28 * x + 2) := by omega
    have w5 : e_w (x2 + 1) = x2 + 1 := a_w_id (by omega) (by omega)
    have m1 := bx_oc_m (g := g) (X := fun l => g (28 * x + 3 + (l : Int))) t (i + 1)
    have m2 := ga_od_m (g := g) (X := fun l => g (28 * x + 3 + (l : Int))) t (i + 1)
    rw [show i + 1 + t = L by omega] at m1 m2
    have m1 : bx_oc g (fun l => g (28 * x + 3 + (l : Int))) i + bx_nc g (g (28 * x + 3 + (i : Int))) ≤ bx_oc g (fun l => g (28 * x + 3 + (l : Int))) L := m1
    have m2 : ga_od g (fun l => g (28 * x + 3 + (l : Int))) i + ga_nd g (g (28 * x + 3 + (i : Int))) ≤ ga_od g (fun l => g (28 * x + 3 + (l : Int))) L := m2
    obtain ⟨M1, k1, A1⟩ := ga_lo_305 (c := bx_oc g (fun l => g (28 * x + 3 + (l : Int))) i) (d := ga_od g (fun l => g (28 * x + 3 + (l : Int))) i) (show x ≤ 40 by omega) (hk (i : Int) (by omega) (by omega)) (by omega) (by omega) hG hB.1 hB.2.1
    obtain ⟨M', k, B⟩ := ih (i + 1) (x2 + 1) M1 (by omega) (by omega) ((ga_G (fun id k a b e => A1.2.2.2.2 _ _ (by omega) (by omega) (by omega))).trans hG) (ga_s hB A1)
    refine ⟨M', ?_, B⟩
    rw [← h2] at k1
    clear ih hB A1 B hc hd hk m1 m2
    rw [E_V_eq]
    show e_tv E_C (E_V 304) e_t304_152 [192, x, x2] M = _
    unfold e_t304_152
    simp [zq_a, zq_b, zq_c, zq_d, zq_e, zq_f, zq_g, zq_h, zq_i, zq_j, zq_k, zq_l, zq_m, zq_n, zq_o, zq_p, zq_q, zq_r, zq_s, zq_t, zq_u, zq_v, zq_w, zq_x, zq_y, zq_z, zq_A, zq_B, zq_C, zq_D, zq_E, zq_F, zq_G, zq_H, zq_I, zq_J, zq_K, zq_L, ↓zq_M, ↓zq_N, ↓zq_O, ↓zq_P, ↓zq_Q, ↓zq_R, zq_S, zq_T, zq_U, zq_V, zq_W, zq_X, zq_Y, zq_Z, zq_0, zq_1, zq_2, zq_3, zq_4, zq_5, ↓zq_6, ↓zq_7, ↓zq_8, ↓zq_9, ↓zq_aa, zq_ab, zq_ac, zq_ad, zq_ae, zq_af, zq_ag, ↓zq_ah, ↓zq_ai, ↓zq_aj, zq_ak, ↓zq_al, ↓zq_am, e_b1, e_b2, x_o1, x_o2, km, ko, q, w5, k1, k]
/-- a PART that is no BOX -/
theorem ga_nb_304 {g : Int → Int} {b p : Int} {M : EM} (hb : b ≤ 40) (hr : r_cl g b p ∨ r_rw g b p ∨ r_fd g b p) (hc : bx_oc g (cu_ln g p) (cu_nl g p) ≤ 48) (hd : ga_od g (cu_ln g p) (cu_nl g p) ≤ 48) (hG : r_G M = g) (h13 : M 192 13 = 0) (h14 : M 192 14 = 0) : ∃ M', E_C 304 [192, p] M = some (0, M') ∧ ga_B g M M' (cu_ln g p) (cu_nl g p) := by
  have B0 : ∀ X, ga_B g M M X 0 := fun X => ⟨h13, h14, fun l k hl => absurd hl (Nat.not_lt_zero _), fun l y hl => absurd hl (Nat.not_lt_zero _), fun _ _ _ _ _ => rfl⟩
  have low : ∀ hp : r_cl g b p ∨ r_rw g b p, ∃ M', E_C 304 [192, p] M = some (0, M') ∧ ga_B g M M' (cu_ln g p) (cu_nl g p) := fun hp => by
    have k0 : ¬ g (28 * p) = 2 := by
      rcases hp with hp | hp
      · have := hp.2.2.1; omega
      · have := hp.2.2.1; omega
    have e1 : cu_nl g p = 1 := if_neg k0
    have e2 : cu_ln g p 0 = p := if_neg k0
    rw [e1] at hc hd ⊢
    have hc : 0 + bx_nc g (cu_ln g p 0) ≤ 48 := hc
    have hd : 0 + ga_nd g (cu_ln g p 0) ≤ 48 := hd
    rw [e2] at hc hd
    obtain ⟨M', k, A⟩ := ga_lo_304 (c := 0) (d := 0) hb hp hc hd hG h13 h14
    refine ⟨M', k, ga_s (B0 _) ?_⟩
    rw [e2]
    exact A
  rcases hr with hp | hp | hp
  · exact low (Or.inl hp)
  · exact low (Or.inr hp)
  · obtain ⟨a1, a2, a3, a4, a5, a6⟩ := hp
    have kk : E_C 170 [192, p] M = some (g (28 * p), M) := by rw [← hG]; exact r_kind ⟨a1, by omega⟩
    obtain ⟨L, hL⟩ : ∃ L : Nat, g (28 * p + 2) = L := ⟨(g (28 * p + 2)).toNat, by omega⟩
    have e1 : cu_nl g p = L := by
      unfold cu_nl
      rw [if_pos a3, hL, Int.toNat_natCast]
    have e2 : cu_ln g p = fun l : Nat => g (28 * p + 3 + (l : Int)) := funext fun l => if_pos a3
    rw [e1, e2] at hc hd ⊢
    obtain ⟨M', k, B⟩ := ga_152_304 (M0 := M) ⟨a1, by omega⟩ hL (by omega) a6 hc hd L 0 0 M rfl (by omega) hG (B0 _)
    refine ⟨M', ?_, B⟩
    rw [r_ent (show e_rok 304 [192, p] = true from decide_eq_true r_ref)]
    show e_tv E_C (E_V 304) e_t304_0 [192, p, 0] M = _
    unfold e_t304_0
    simp [zq_a, zq_b, zq_c, zq_d, zq_e, zq_f, zq_g, zq_h, zq_i, zq_j, zq_k, zq_l, zq_m, zq_n, zq_o, zq_p, zq_q, zq_r, zq_s, zq_t, zq_u, zq_v, zq_w, zq_x, zq_y, zq_z, zq_A, zq_B, zq_C, zq_D, zq_E, zq_F, zq_G, zq_H, zq_I, zq_J, zq_K, zq_L, ↓zq_M, ↓zq_N, ↓zq_O, ↓zq_P, ↓zq_Q, ↓zq_R, zq_S, zq_T, zq_U, zq_V, zq_W, zq_X, zq_Y, zq_Z, zq_0, zq_1, zq_2, zq_3, zq_4, zq_5, ↓zq_6, ↓zq_7, ↓zq_8, ↓zq_9, ↓zq_aa, zq_ab, zq_ac, zq_ad, zq_ae, zq_af, zq_ag, ↓zq_ah, ↓zq_ai, ↓zq_aj, zq_ak, ↓zq_al, ↓zq_am, e_b1, e_b2, x_o1, x_o2, kk, a3, k]
theorem ga_152_176 {g : Int → Int} {x : Int} {L : Nat} {M0 : EM} (hx : 0 ≤ x ∧ x < 40) (hn : g (28 * x + 2) = L) (hL6 : L ≤ 6) (hk : ∀ k, 0 ≤ k → k < g (28 * x + 2) → r_cl g x (g (28 * x + 3 + k)) ∨ r_rw g x (g (28 * x + 3 + k))) (hc : bx_oc g (fun l => g (28 * x + 3 + (l : Int))) L ≤ 48) (hd : ga_od g (fun l => g (28 * x + 3 + (l : Int))) L ≤ 48) : ∀ (t i : Nat) (x2 : Int) (M : EM), x2 = i → i + t = L → r_G M = g → ga_B g M0 M (fun l => g (28 * x + 3 + (l : Int))) i → ∃ M', E_V 176 152 [192, x, x2] M = some (0, M') ∧ ga_B g M0 M' (fun l => g (28 * x + 3 + (l : Int))) L := by
  intro t
  induction t with
  | zero =>
    intro i x2 M h2 hi hG hB
    have e : i = L := by omega
    subst e
    have km : E_C 171 [192, x] M = some (g (28 * x + 2), M) := by rw [← hG]; exact r_many hx
    have q : ¬ (x2 < g (28 * x + 2)) := by omega
    refine ⟨M, ?_, hB⟩
    clear hB hc hd hk
    rw [E_V_eq]
    show e_tv E_C (E_V 176) e_t176_152 [192, x, x2] M = _
    unfold e_t176_152
    simp [zq_a, zq_b, zq_c, zq_d, zq_e, zq_f, zq_g, zq_h, zq_i, zq_j, zq_k, zq_l, zq_m, zq_n, zq_o, zq_p, zq_q, zq_r, zq_s, zq_t, zq_u, zq_v, zq_w, zq_x, zq_y, zq_z, zq_A, zq_B, zq_C, zq_D, zq_E, zq_F, zq_G, zq_H, zq_I, zq_J, zq_K, zq_L, ↓zq_M, ↓zq_N, ↓zq_O, ↓zq_P, ↓zq_Q, ↓zq_R, zq_S, zq_T, zq_U, zq_V, zq_W, zq_X, zq_Y, zq_Z, zq_0, zq_1, zq_2, zq_3, zq_4, zq_5, ↓zq_6, ↓zq_7, ↓zq_8, ↓zq_9, ↓zq_aa, zq_ab, zq_ac, zq_ad, zq_ae, zq_af, zq_ag, ↓zq_ah, ↓zq_ai, ↓zq_aj, zq_ak, ↓zq_al, ↓zq_am, e_b1, e_b2, x_o1, x_o2, km, q]
  | succ t ih =>
    intro i x2 M h2 hi hG hB
    have km : E_C 171 [192, x] M = some (g (28 * x + 2), M) := by rw [← hG]; exact r_many hx
    have ko : E_C 172 [192, x, x2] M = some (g (28 * x + 3 + x2), M) := by rw [← hG]; exact r_of hx ⟨by omega, by omega⟩
    have q : x2 < g (28 * x + 2) := by omega
    have w5 : e_w (x2 + 1) = x2 + 1 := a_w_id (by omega) (by omega)
    have m1 := bx_oc_m (g := g) (X := fun l => g (28 * x + 3 + (l : Int))) t (i + 1)
    have m2 := ga_od_m (g := g) (X := fun l => g (28 * x + 3 + (l : Int))) t (i + 1)
    rw [show i + 1 + t = L by omega] at m1 m2
    have m1 : bx_oc g (fun l => g (28 * x + 3 + (l : Int))) i + bx_nc g (g (28 * x + 3 + (i : Int))) ≤ bx_oc g (fun l => g (28 * x + 3 + (l : Int))) L := m1
    have m2 : ga_od g (fun l => g (28 * x + 3 + (l : Int))) i + ga_nd g (g (28 * x + 3 + (i : Int))) ≤ ga_od g (fun l => g (28 * x + 3 + (l : Int))) L := m2
    obtain ⟨M1, k1, A1⟩ := ga_lo_304 (c := bx_oc g (fun l => g (28 * x + 3 + (l : Int))) i) (d := ga_od g (fun l => g (28 * x + 3 + (l : Int))) i) (show x ≤ 40 by omega) (hk (i : Int) (by omega) (by omega)) (by omega) (by omega) hG hB.1 hB.2.1
    obtain ⟨M', k, B⟩ := ih (i + 1) (x2 + 1) M1 (by omega) (by omega) ((ga_G (fun id k a b e => A1.2.2.2.2 _ _ (by omega) (by omega) (by omega))).trans hG) (ga_s hB A1)
    refine ⟨M', ?_, B⟩
    rw [← h2] at k1
    clear ih hB A1 B hc hd hk m1 m2
    rw [E_V_eq]
    show e_tv E_C (E_V 176) e_t176_152 [192, x, x2] M = _
    unfold e_t176_152
    simp [zq_a, zq_b, zq_c, zq_d, zq_e, zq_f, zq_g, zq_h, zq_i, zq_j, zq_k, zq_l, zq_m, zq_n, zq_o, zq_p, zq_q, zq_r, zq_s, zq_t, zq_u, zq_v, zq_w, zq_x, zq_y, zq_z, zq_A, zq_B, zq_C, zq_D, zq_E, zq_F, zq_G, zq_H, zq_I, zq_J, zq_K, zq_L, ↓zq_M, ↓zq_N, ↓zq_O, ↓zq_P, ↓zq_Q, ↓zq_R, zq_S, zq_T, zq_U, zq_V, zq_W, zq_X, zq_Y, zq_Z, zq_0, zq_1, zq_2, zq_3, zq_4, zq_5, ↓zq_6, ↓zq_7, ↓zq_8, ↓zq_9, ↓zq_aa, zq_ab, zq_ac, zq_ad, zq_ae, zq_af, zq_ag, ↓zq_ah, ↓zq_ai, ↓zq_aj, zq_ak, ↓zq_al, ↓zq_am, e_b1, e_b2, x_o1, x_o2, km, ko, q, w5, k1, k]
/-- a PART that is no BOX -/
theorem ga_nb_176 {g : Int → Int} {b p : Int} {M : EM} (hb : b ≤ 40) (hr : r_cl g b p ∨ r_rw g b p ∨ r_fd g b p) (hc : bx_oc g (cu_ln g p) (cu_nl g p) ≤ 48) (hd : ga_od g (cu_ln g p) (cu_nl g p) ≤ 48) (hG : r_G M = g) (h13 : M 192 13 = 0) (h14 : M 192 14 = 0) : ∃ M', E_C 176 [192, p] M = some (0, M') ∧ ga_B g M M' (cu_ln g p) (cu_nl g p) := by
  have B0 : ∀ X, ga_B g M M X 0 := fun X => ⟨h13, h14, fun l k hl => absurd hl (Nat.not_lt_zero _), fun l y hl => absurd hl (Nat.not_lt_zero _), fun _ _ _ _ _ => rfl⟩
  have low : ∀ hp : r_cl g b p ∨ r_rw g b p, ∃ M', E_C 176 [192, p] M = some (0, M') ∧ ga_B g M M' (cu_ln g p) (cu_nl g p) := fun hp => by
    have k0 : ¬ g (28 * p) = 2 := by
      rcases hp with hp | hp
      · have := hp.2.2.1; omega
      · have := hp.2.2.1; omega
    have e1 : cu_nl g p = 1 := if_neg k0
    have e2 : cu_ln g p 0 = p := if_neg k0
    rw [e1] at hc hd ⊢
    have hc : 0 + bx_nc g (cu_ln g p 0) ≤ 48 := hc
    have hd : 0 + ga_nd g (cu_ln g p 0) ≤ 48 := hd
    rw [e2] at hc hd
    obtain ⟨M', k, A⟩ := ga_lo_176 (c := 0) (d := 0) hb hp hc hd hG h13 h14
    refine ⟨M', k, ga_s (B0 _) ?_⟩
    rw [e2]
    exact A
  rcases hr with hp | hp | hp
  · exact low (Or.inl hp)
  · exact low (Or.inr hp)
  · obtain ⟨a1, a2, a3, a4, a5, a6⟩ := hp
    have kk : E_C 170 [192, p] M = some (g (28 * p), M) := by rw [← hG]; exact r_kind ⟨a1, by omega⟩
    obtain ⟨L, hL⟩ : ∃ L : Nat, g (28 * p + 2) = L := ⟨(g (28 * p + 2)).toNat, by omega⟩
    have e1 : cu_nl g p = L := by
      unfold cu_nl
      rw [if_pos a3, hL, Int.toNat_natCast]
    have e2 : cu_ln g p = fun l : Nat => g (28 * p + 3 + (l : Int)) := funext fun l => if_pos a3
    rw [e1, e2] at hc hd ⊢
    obtain ⟨M', k, B⟩ := ga_152_176 (M0 := M) ⟨a1, by omega⟩ hL (by omega) a6 hc hd L 0 0 M rfl (by omega) hG (B0 _)
    refine ⟨M', ?_, B⟩
    rw [r_ent (show e_rok 176 [192, p] = true from decide_eq_true r_ref)]
    show e_tv E_C (E_V 176) e_t176_0 [192, p, 0] M = _
    unfold e_t176_0
    simp [zq_a, zq_b, zq_c, zq_d, zq_e, zq_f, zq_g, zq_h, zq_i, zq_j, zq_k, zq_l, zq_m, zq_n, zq_o, zq_p, zq_q, zq_r, zq_s, zq_t, zq_u, zq_v, zq_w, zq_x, zq_y, zq_z, zq_A, zq_B, zq_C, zq_D, zq_E, zq_F, zq_G, zq_H, zq_I, zq_J, zq_K, zq_L, ↓zq_M, ↓zq_N, ↓zq_O, ↓zq_P, ↓zq_Q, ↓zq_R, zq_S, zq_T, zq_U, zq_V, zq_W, zq_X, zq_Y, zq_Z, zq_0, zq_1, zq_2, zq_3, zq_4, zq_5, ↓zq_6, ↓zq_7, ↓zq_8, ↓zq_9, ↓zq_aa, zq_ab, zq_ac, zq_ad, zq_ae, zq_af, zq_ag, ↓zq_ah, ↓zq_ai, ↓zq_aj, zq_ak, ↓zq_al, ↓zq_am, e_b1, e_b2, x_o1, x_o2, kk, a3, k]
/-- all that is in a PART -/
theorem ga_all {g : Int → Int} {b p : Int} {M : EM} (hb : b ≤ 40) (hp : r_pt g b p) (hc : bx_oc g (cu_ln g (cu_in g p)) (cu_nl g (cu_in g p)) ≤ 48) (hd : ga_od g (cu_ln g (cu_in g p)) (cu_nl g (cu_in g p)) ≤ 48) (hG : r_G M = g) : ∃ M', E_C 175 [192, p] M = some (0, M') ∧ ga_B g M M' (cu_ln g (cu_in g p)) (cu_nl g (cu_in g p)) := by
  have hG1 : r_G (e_up (e_up M 192 13 0) 192 14 0) = g := (ga_G (fun id k a b e => by rw [c_up_n (by omega), c_up_n (by omega)])).trans hG
  have z13 : (e_up (e_up M 192 13 0) 192 14 0) 192 13 = 0 := by rw [c_up_n (by omega), c_up_s]
  have z14 : (e_up (e_up M 192 13 0) 192 14 0) 192 14 = 0 := c_up_s
  have key : ∃ M', E_C 176 [192, p] (e_up (e_up M 192 13 0) 192 14 0) = some (0, M') ∧ ga_B g (e_up (e_up M 192 13 0) 192 14 0) M' (cu_ln g (cu_in g p)) (cu_nl g (cu_in g p)) := by
    have go : ∀ hp : r_cl g b p ∨ r_rw g b p ∨ r_fd g b p, ∃ M', E_C 176 [192, p] (e_up (e_up M 192 13 0) 192 14 0) = some (0, M') ∧ ga_B g (e_up (e_up M 192 13 0) 192 14 0) M' (cu_ln g (cu_in g p)) (cu_nl g (cu_in g p)) := fun hp => by
      have nb : ¬ g (28 * p) = 3 := by
        rcases hp with hp | hp | hp
        · have := hp.2.2.1; omega
        · have := hp.2.2.1; omega
        · have := hp.2.2.1; omega
      have e : cu_in g p = p := if_neg nb
      rw [e] at hc hd ⊢
      exact ga_nb_176 hb hp hc hd hG1 z13 z14
    rcases hp with hp | hp | hp | hp
    · exact go (Or.inl hp)
    · exact go (Or.inr (Or.inl hp))
    · exact go (Or.inr (Or.inr hp))
    · obtain ⟨a1, a2, a3, a4, a5⟩ := hp
      have h40 : 0 ≤ p ∧ p < 40 := ⟨a1, by omega⟩
      have e : cu_in g p = g (28 * p + 3) := if_pos a3
      rw [e] at hc hd ⊢
      obtain ⟨N, hN⟩ : ∃ N, e_up (e_up M 192 13 0) 192 14 0 = N := ⟨_, rfl⟩
      rw [hN] at hG1 z13 z14 ⊢
      have kk : E_C 170 [192, p] N = some (g (28 * p), N) := by rw [← hG1]; exact r_kind h40
      have km : ∀ M1, r_G M1 = g → E_C 171 [192, p] M1 = some (1, M1) := fun M1 h => by
        have k := r_many (M := M1) (p := p) h40
        rw [show M1 193 (28 * p + 2).toNat = 1 from (congrFun h _).trans a4.1] at k
        exact k
      have ko : E_C 172 [192, p, 0] N = some (g (28 * p + 3), N) := by
        have h := r_of (M := N) (p := p) (k := 0) h40 ⟨by decide, by decide⟩
        rw [Int.add_zero, show N 193 (28 * p + 3).toNat = g (28 * p + 3) from congrFun hG1 _] at h
        exact h
      obtain ⟨M', k, B⟩ := ga_nb_304 (show p ≤ 40 by omega) a5 hc hd hG1 z13 z14
      have w1 : e_w 1 = 1 := a_w_id (by decide) (by decide)
      have k2 : E_V 176 152 [192, p, 1] M' = some (0, M') := by
        have km' := km M' ((ga_G (fun id k a b e => B.2.2.2.2 _ _ b e (by omega))).trans hG1)
        clear B
        rw [E_V_eq]
        show e_tv E_C (E_V 176) e_t176_152 [192, p, 1] M' = _
        unfold e_t176_152
        simp [zq_a, zq_b, zq_c, zq_d, zq_e, zq_f, zq_g, zq_h, zq_i, zq_j, zq_k, zq_l, zq_m, zq_n, zq_o, zq_p, zq_q, zq_r, zq_s, zq_t, zq_u, zq_v, zq_w, zq_x, zq_y, zq_z, zq_A, zq_B, zq_C, zq_D, zq_E, zq_F, zq_G, zq_H, zq_I, zq_J, zq_K, zq_L, ↓zq_M, ↓zq_N, ↓zq_O, ↓zq_P, ↓zq_Q, ↓zq_R, zq_S, zq_T, zq_U, zq_V, zq_W, zq_X, zq_Y, zq_Z, zq_0, zq_1, zq_2, zq_3, zq_4, zq_5, ↓zq_6, ↓zq_7, ↓zq_8, ↓zq_9, ↓zq_aa, zq_ab, zq_ac, zq_ad, zq_ae, zq_af, zq_ag, ↓zq_ah, ↓zq_ai, ↓zq_aj, zq_ak, ↓zq_al, ↓zq_am, e_b1, e_b2, x_o1, x_o2, km']
      have k3 : E_V 176 152 [192, p, 0] N = some (0, M') := by
        have km' := km N hG1
        clear B
        rw [E_V_eq]
        show e_tv E_C (E_V 176) e_t176_152 [192, p, 0] N = _
        unfold e_t176_152
        simp [zq_a, zq_b, zq_c, zq_d, zq_e, zq_f, zq_g, zq_h, zq_i, zq_j, zq_k, zq_l, zq_m, zq_n, zq_o, zq_p, zq_q, zq_r, zq_s, zq_t, zq_u, zq_v, zq_w, zq_x, zq_y, zq_z, zq_A, zq_B, zq_C, zq_D, zq_E, zq_F, zq_G, zq_H, zq_I, zq_J, zq_K, zq_L, ↓zq_M, ↓zq_N, ↓zq_O, ↓zq_P, ↓zq_Q, ↓zq_R, zq_S, zq_T, zq_U, zq_V, zq_W, zq_X, zq_Y, zq_Z, zq_0, zq_1, zq_2, zq_3, zq_4, zq_5, ↓zq_6, ↓zq_7, ↓zq_8, ↓zq_9, ↓zq_aa, zq_ab, zq_ac, zq_ad, zq_ae, zq_af, zq_ag, ↓zq_ah, ↓zq_ai, ↓zq_aj, zq_ak, ↓zq_al, ↓zq_am, e_b1, e_b2, x_o1, x_o2, km', ko, k, w1, k2]
      refine ⟨M', ?_, B⟩
      clear B
      rw [r_ent (show e_rok 176 [192, p] = true from decide_eq_true r_ref)]
      show e_tv E_C (E_V 176) e_t176_0 [192, p, 0] N = _
      unfold e_t176_0
      simp [zq_a, zq_b, zq_c, zq_d, zq_e, zq_f, zq_g, zq_h, zq_i, zq_j, zq_k, zq_l, zq_m, zq_n, zq_o, zq_p, zq_q, zq_r, zq_s, zq_t, zq_u, zq_v, zq_w, zq_x, zq_y, zq_z, zq_A, zq_B, zq_C, zq_D, zq_E, zq_F, zq_G, zq_H, zq_I, zq_J, zq_K, zq_L, ↓zq_M, ↓zq_N, ↓zq_O, ↓zq_P, ↓zq_Q, ↓zq_R, zq_S, zq_T, zq_U, zq_V, zq_W, zq_X, zq_Y, zq_Z, zq_0, zq_1, zq_2, zq_3, zq_4, zq_5, ↓zq_6, ↓zq_7, ↓zq_8, ↓zq_9, ↓zq_aa, zq_ab, zq_ac, zq_ad, zq_ae, zq_af, zq_ag, ↓zq_ah, ↓zq_ai, ↓zq_aj, zq_ak, ↓zq_al, ↓zq_am, e_b1, e_b2, x_o1, x_o2, kk, a3, k3]
  obtain ⟨M', k, a1, a2, a3, a4, a5⟩ := key
  refine ⟨M', ?_, a1, a2, a3, a4, fun id k i1 i2 i3 => (a5 _ _ i1 i2 i3).trans (by rw [c_up_n (by omega), c_up_n (by omega)])⟩
  clear a1 a2 a3 a4 a5
  rw [r_ent (show e_rok 175 [192, p] = true from decide_eq_true r_ref)]
  show e_tv E_C (E_V 175) e_t175_0 [192, p] M = _
  unfold e_t175_0
  simp [zq_a, zq_b, zq_c, zq_d, zq_e, zq_f, zq_g, zq_h, zq_i, zq_j, zq_k, zq_l, zq_m, zq_n, zq_o, zq_p, zq_q, zq_r, zq_s, zq_t, zq_u, zq_v, zq_w, zq_x, zq_y, zq_z, zq_A, zq_B, zq_C, zq_D, zq_E, zq_F, zq_G, zq_H, zq_I, zq_J, zq_K, zq_L, ↓zq_M, ↓zq_N, ↓zq_O, ↓zq_P, ↓zq_Q, ↓zq_R, zq_S, zq_T, zq_U, zq_V, zq_W, zq_X, zq_Y, zq_Z, zq_0, zq_1, zq_2, zq_3, zq_4, zq_5, ↓zq_6, ↓zq_7, ↓zq_8, ↓zq_9, ↓zq_aa, zq_ab, zq_ac, zq_ad, zq_ae, zq_af, zq_ag, ↓zq_ah, ↓zq_ai, ↓zq_aj, zq_ak, ↓zq_al, ↓zq_am, e_b1, e_b2, x_o1, x_o2, r_P13, r_P14, k]
