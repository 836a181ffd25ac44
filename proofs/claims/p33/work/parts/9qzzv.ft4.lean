/-! the look that parts them best: counting -/
def lk_m (v : Nat → Int) (a : Int) (n : Nat) : Nat := gd_n (fun k => if v k = a then 1 else 0) n
theorem lk_m_1 {v : Nat → Int} {a : Int} {n : Nat} (h : v n = a) : lk_m v a (n + 1) = lk_m v a n + 1 := gd_n_1 (D := fun k => if v k = a then 1 else 0) (by
  show (if v n = a then (1 : Int) else 0) ≠ 0
  rw [if_pos h]
  decide)
theorem lk_m_0 {v : Nat → Int} {a : Int} {n : Nat} (h : v n ≠ a) : lk_m v a (n + 1) = lk_m v a n := gd_n_0 (D := fun k => if v k = a then 1 else 0) (if_neg h)
theorem lk_m_le {v : Nat → Int} {a : Int} {n : Nat} : lk_m v a n ≤ n := gd_n_le _
/-- the class's way -/
def lk_g (v : Nat → Int) : Nat → Nat
  | 0 => 0
  | k + 1 => if lk_g v k < lk_m v (v k) (k + 1) then lk_m v (v k) (k + 1) else lk_g v k
/-- the reference's way -/
def lk_h (v : Nat → Int) (n : Nat) : Nat → Nat
  | 0 => 0
  | k + 1 => if lk_h v n k < lk_m v (v k) n then lk_m v (v k) n else lk_h v n k
theorem lk_g_s {v : Nat → Int} {k : Nat} : lk_g v (k + 1) = if lk_g v k < lk_m v (v k) (k + 1) then lk_m v (v k) (k + 1) else lk_g v k := rfl
theorem lk_h_s {v : Nat → Int} {n k : Nat} : lk_h v n (k + 1) = if lk_h v n k < lk_m v (v k) n then lk_m v (v k) n else lk_h v n k := rfl
theorem lk_g_up {v : Nat → Int} : ∀ n j, j < n → lk_m v (v j) n ≤ lk_g v n := by
  intro n
  induction n with
  | zero => intro j h; exact absurd h (Nat.not_lt_zero _)
  | succ n ih =>
    intro j h
    rw [lk_g_s]
    have key : lk_m v (v j) (n + 1) ≤ lk_g v n ∨ lk_m v (v j) (n + 1) ≤ lk_m v (v n) (n + 1) := by
      by_cases e : v n = v j
      · rw [e]; exact Or.inr (Nat.le_refl _)
      · rw [lk_m_0 e]
        refine Or.inl (ih j ?_)
        rcases Nat.lt_or_ge j n with c | c
        · exact c
        · have e2 : j = n := by omega
          subst e2
          exact absurd rfl e
    split
    · omega
    · omega
theorem lk_g_ex {v : Nat → Int} : ∀ n, n ≠ 0 → ∃ j, j < n ∧ lk_g v n = lk_m v (v j) n := by
  intro n
  induction n with
  | zero => intro h; exact absurd rfl h
  | succ n ih =>
    intro _
    rcases Classical.em (lk_g v n < lk_m v (v n) (n + 1)) with c | c
    · exact ⟨n, by omega, by rw [lk_g_s, if_pos c]⟩
    · have n0 : n ≠ 0 := by
        intro e
        subst e
        have : lk_m v (v 0) (0 + 1) = lk_m v (v 0) 0 + 1 := lk_m_1 rfl
        have g0 : lk_g v 0 = 0 := rfl
        omega
      obtain ⟨j, h1, h2⟩ := ih n0
      refine ⟨j, by omega, ?_⟩
      rw [lk_g_s, if_neg c, h2]
      by_cases e : v n = v j
      · exfalso
        rw [e, lk_m_1 e] at c
        omega
      · rw [lk_m_0 e]
theorem lk_g_le {v : Nat → Int} (n : Nat) : lk_g v n ≤ n := by
  by_cases h : n = 0
  · subst h; exact Nat.le_refl _
  · obtain ⟨j, -, h2⟩ := lk_g_ex (v := v) n h
    rw [h2]
    exact lk_m_le
theorem lk_gh {v : Nat → Int} (n : Nat) : lk_h v n n = lk_g v n := by
  have up : ∀ k, k ≤ n → lk_h v n k ≤ lk_g v n := by
    intro k
    induction k with
    | zero => intro _; exact Nat.zero_le _
    | succ k ih =>
      intro h
      have a := ih (by omega)
      have b := lk_g_up (v := v) n k (by omega)
      rw [lk_h_s]
      split
      · exact b
      · exact a
  have lo : ∀ k j, j < k → lk_m v (v j) n ≤ lk_h v n k := by
    intro k
    induction k with
    | zero => intro j h; exact absurd h (Nat.not_lt_zero _)
    | succ k ih =>
      intro j h
      rw [lk_h_s]
      rcases Nat.lt_or_ge j k with c | c
      · have := ih j c
        split
        · omega
        · exact this
      · have e : j = k := by omega
        subst e
        split
        · exact Nat.le_refl _
        · omega
  by_cases h : n = 0
  · subst h; rfl
  · obtain ⟨j, h1, h2⟩ := lk_g_ex (v := v) n h
    have a := up n (Nat.le_refl _)
    have b := lo n j h1
    omega
/-- the first u with the least of G, and that least -/
def lk_b (G : Nat → Nat) (z : Nat) : Nat → Nat × Nat
  | 0 => (0, z)
  | u + 1 => if G u < (lk_b G z u).2 then (u, G u) else lk_b G z u
theorem lk_b_1 {G : Nat → Nat} {z u : Nat} (h : G u < (lk_b G z u).2) : lk_b G z (u + 1) = (u, G u) := if_pos h
theorem lk_b_0 {G : Nat → Nat} {z u : Nat} (h : ¬ G u < (lk_b G z u).2) : lk_b G z (u + 1) = lk_b G z u := if_neg h
/-- the class's greatestGroup -/
theorem lk_46 {B : EM} {n : Nat} {v : Nat → Int} {u : Int} (h0 : B 187 0 = n) (hn : n ≤ 81) (hu : 0 ≤ u ∧ u < 121) (hv : ∀ k : Nat, k < n → B 189 (121 * k + u.toNat) = v k) (hb : ∀ k, k < n → 0 ≤ v k ∧ v k ≤ 594) : ∃ B', E_C 46 [187, u] B = some ((lk_g v n : Int), B') ∧ ∀ id k, id ≠ 190 → B' id k = B id k := by
  have lp : ∀ (d k : Nat) (x2 x3 x4 : Int) (K : EM), x3 = k → k + d = n → x2 = (lk_g v k : Int) → (∀ a : Nat, a < 600 → K 190 a = (lk_m v (a : Int) k : Int)) → (∀ id j, id ≠ 190 → K id j = B id j) → ∃ B', E_V 46 12 [187, u, x2, x3, x4] K = some ((lk_g v n : Int), B') ∧ ∀ id k, id ≠ 190 → B' id k = B id k := by
    intro d
    induction d with
    | zero =>
      intro k x2 x3 x4 K h3 hk h2 ha hf
      have e : k = n := by omega
      subst e
      refine ⟨K, ?_, hf⟩
      have k0 : K 187 0 = x3 := (hf _ _ (by decide)).trans (h0.trans h3.symm)
      have q : ¬ (x3 < x3) := by omega
      rw [← h2]
      clear ha hf hv hb h2 h3
      rw [E_V_eq]
      show e_tv E_C (E_V 46) e_t46_12 [187, u, x2, x3, x4] K = _
      unfold e_t46_12
      simp [zq_a, zq_b, zq_c, zq_d, zq_e, zq_f, zq_g, zq_h, zq_i, zq_j, zq_k, zq_l, zq_m, zq_n, zq_o, zq_p, zq_q, zq_r, zq_s, zq_t, zq_u, zq_v, zq_w, zq_x, zq_y, zq_z, zq_A, zq_B, zq_C, zq_D, zq_E, zq_F, zq_G, zq_H, zq_I, zq_J, zq_K, zq_L, ↓zq_M, ↓zq_N, ↓zq_O, ↓zq_P, ↓zq_Q, ↓zq_R, zq_S, zq_T, zq_U, zq_V, zq_W, zq_X, zq_Y, zq_Z, zq_0, zq_1, zq_2, zq_3, zq_4, zq_5, ↓zq_6, ↓zq_7, ↓zq_8, ↓zq_9, ↓zq_aa, zq_ab, zq_ac, zq_ad, zq_ae, zq_af, zq_ag, ↓zq_ah, ↓zq_ai, ↓zq_aj, zq_ak, ↓zq_al, ↓zq_am, e_b1, e_b2, x_o1, x_o2, dg_F0, k0, q]
    | succ d ih =>
      intro k x2 x3 x4 K h3 hk h2 ha hf
      have bk := hb k (by omega)
      obtain ⟨a, haa⟩ : ∃ a : Nat, v k = a := ⟨(v k).toNat, by omega⟩
      have a6 : a < 600 := by omega
      have m1 : lk_m v (a : Int) (k + 1) = lk_m v (a : Int) k + 1 := lk_m_1 haa
      have gs := lk_g_s (v := v) (k := k)
      rw [haa, m1] at gs
      have ml : lk_m v (a : Int) k ≤ k := lk_m_le
      have gl := lk_g_le (v := v) k
      have k0 : K 187 0 = (n : Int) := (hf _ _ (by decide)).trans h0
      have t1 : E_C 146 [189, x3 * 121 + u] K = some ((a : Int), K) := (w_atN (a := 189) (n := 9801) (by decide +kernel) (j := 121 * k + u.toNat) (by omega) (by omega) K).trans (by rw [show (189 : Int).toNat = 189 from rfl, hf _ _ (by decide), hv k (by omega), haa])
      obtain ⟨c, hc⟩ : ∃ c : Int, (lk_m v (a : Int) k : Int) = c := ⟨_, rfl⟩
      have t2 : E_C 146 [190, (a : Int)] K = some (c, K) := (w_atN (a := 190) (n := 600) (by decide +kernel) (j := a) rfl a6 K).trans (by rw [show (190 : Int).toNat = 190 from rfl, ha a a6, hc])
      have l : E_C 147 [190, (a : Int), c + 1] K = some (0, e_up K 190 a (c + 1)) := w_layN (a := 190) (n := 600) (by decide +kernel) (j := a) rfl a6 _ K
      have t3 : E_C 146 [190, (a : Int)] (e_up K 190 a (c + 1)) = some (c + 1, e_up K 190 a (c + 1)) := (w_atN (a := 190) (n := 600) (by decide +kernel) (j := a) rfl a6 _).trans (by rw [show (190 : Int).toNat = 190 from rfl, c_up_s])
      obtain ⟨y2, hy2⟩ : ∃ y2 : Int, (if x2 < c + 1 then c + 1 else x2) = y2 := ⟨_, rfl⟩
      have ey : y2 = (lk_g v (k + 1) : Int) := by
        rw [gs, ← hy2]
        rcases Classical.em (lk_g v k < lk_m v (a : Int) k + 1) with q | q
        · rw [if_pos q, if_pos (by omega)]
          omega
        · rw [if_neg q, if_neg (by omega)]
          exact h2
      obtain ⟨B', kk, kf⟩ := ih (k + 1) y2 (x3 + 1) (a : Int) (e_up K 190 a (c + 1)) (by omega) (by omega) ey (fun b hb6 => by
        by_cases e : b = a
        · subst e
          rw [c_up_s, m1]
          omega
        · rw [c_up_n (by omega), ha b hb6, lk_m_0 (by omega)]) (fun id j h => by rw [c_up_n (by omega)]; exact hf id j h)
      refine ⟨B', ?_, kf⟩
      rw [← kk, ← hy2]
      have w1 : e_w (x3 * 121) = x3 * 121 := a_w_id (by omega) (by omega)
      have w2 : e_w (x3 * 121 + u) = x3 * 121 + u := a_w_id (by omega) (by omega)
      have w3 : e_w (c + 1) = c + 1 := a_w_id (by omega) (by omega)
      have w4 : e_w (x3 + 1) = x3 + 1 := a_w_id (by omega) (by omega)
      have q : x3 < (n : Int) := by omega
      clear ha hf hv hb h2 h3 kk kf ih gs gl ml m1 ey hy2 hc haa bk h0
      generalize (a : Int) = aa at *
      generalize (n : Int) = nn at *
      rw [E_V_eq]
      show e_tv E_C (E_V 46) e_t46_12 [187, u, x2, x3, x4] K = _
      unfold e_t46_12
      rcases x_lt x2 (c + 1) with ⟨z, zn⟩ | ⟨z, zn⟩
      · simp [zq_a, zq_b, zq_c, zq_d, zq_e, zq_f, zq_g, zq_h, zq_i, zq_j, zq_k, zq_l, zq_m, zq_n, zq_o, zq_p, zq_q, zq_r, zq_s, zq_t, zq_u, zq_v, zq_w, zq_x, zq_y, zq_z, zq_A, zq_B, zq_C, zq_D, zq_E, zq_F, zq_G, zq_H, zq_I, zq_J, zq_K, zq_L, ↓zq_M, ↓zq_N, ↓zq_O, ↓zq_P, ↓zq_Q, ↓zq_R, zq_S, zq_T, zq_U, zq_V, zq_W, zq_X, zq_Y, zq_Z, zq_0, zq_1, zq_2, zq_3, zq_4, zq_5, ↓zq_6, ↓zq_7, ↓zq_8, ↓zq_9, ↓zq_aa, zq_ab, zq_ac, zq_ad, zq_ae, zq_af, zq_ag, ↓zq_ah, ↓zq_ai, ↓zq_aj, zq_ak, ↓zq_al, ↓zq_am, e_b1, e_b2, x_o1, x_o2, dg_F0, dg_G2, dg_G3, k0, q, w1, w2, w3, w4, t1, t2, t3, l, z, zn]
      · simp [zq_a, zq_b, zq_c, zq_d, zq_e, zq_f, zq_g, zq_h, zq_i, zq_j, zq_k, zq_l, zq_m, zq_n, zq_o, zq_p, zq_q, zq_r, zq_s, zq_t, zq_u, zq_v, zq_w, zq_x, zq_y, zq_z, zq_A, zq_B, zq_C, zq_D, zq_E, zq_F, zq_G, zq_H, zq_I, zq_J, zq_K, zq_L, ↓zq_M, ↓zq_N, ↓zq_O, ↓zq_P, ↓zq_Q, ↓zq_R, zq_S, zq_T, zq_U, zq_V, zq_W, zq_X, zq_Y, zq_Z, zq_0, zq_1, zq_2, zq_3, zq_4, zq_5, ↓zq_6, ↓zq_7, ↓zq_8, ↓zq_9, ↓zq_aa, zq_ab, zq_ac, zq_ad, zq_ae, zq_af, zq_ag, ↓zq_ah, ↓zq_ai, ↓zq_aj, zq_ak, ↓zq_al, ↓zq_am, e_b1, e_b2, x_o1, x_o2, dg_F0, dg_G2, dg_G3, k0, q, w1, w2, w3, w4, t1, t2, t3, l, z, zn]
  have fl := bx_fill (a := 190) (n := 600) (v := 0) (by decide) (by decide) (by decide +kernel) (by decide) B
  obtain ⟨B', kk, kf⟩ := lp n 0 0 0 0 (bx_fl B 190 600 0 0) rfl (by omega) rfl (fun a ha => if_pos ⟨rfl, Nat.zero_le _, ha⟩) (fun id j h => if_neg (fun e => h e.1))
  refine ⟨B', ?_, kf⟩
  have fl' : E_C 270 [190, 0] B = some (0, bx_fl B 190 600 0 0) := fl
  rw [r_ent (show e_rok 46 [187, u] = true from dg_r rfl (by decide +kernel))]
  show e_tv E_C (E_V 46) e_t46_0 [187, u, 0, 0, 0] B = _
  unfold e_t46_0
  simp [zq_a, zq_b, zq_c, zq_d, zq_e, zq_f, zq_g, zq_h, zq_i, zq_j, zq_k, zq_l, zq_m, zq_n, zq_o, zq_p, zq_q, zq_r, zq_s, zq_t, zq_u, zq_v, zq_w, zq_x, zq_y, zq_z, zq_A, zq_B, zq_C, zq_D, zq_E, zq_F, zq_G, zq_H, zq_I, zq_J, zq_K, zq_L, ↓zq_M, ↓zq_N, ↓zq_O, ↓zq_P, ↓zq_Q, ↓zq_R, zq_S, zq_T, zq_U, zq_V, zq_W, zq_X, zq_Y, zq_Z, zq_0, zq_1, zq_2, zq_3, zq_4, zq_5, ↓zq_6, ↓zq_7, ↓zq_8, ↓zq_9, ↓zq_aa, zq_ab, zq_ac, zq_ad, zq_ae, zq_af, zq_ag, ↓zq_ah, ↓zq_ai, ↓zq_aj, zq_ak, ↓zq_al, ↓zq_am, e_b1, e_b2, x_o1, x_o2, dg_G3, fl', kk]
theorem lk_b_bd {G : Nat → Nat} {z : Nat} (hG : ∀ u, G u ≤ z) : ∀ u, (lk_b G z u).1 ≤ u ∧ (lk_b G z u).2 ≤ z := by
  intro u
  induction u with
  | zero => exact ⟨Nat.le_refl _, Nat.le_refl _⟩
  | succ u ih =>
    rcases Classical.em (G u < (lk_b G z u).2) with c | c
    · rw [lk_b_1 c]
      exact ⟨Nat.le_succ _, hG u⟩
    · rw [lk_b_0 c]
      exact ⟨Nat.le_succ_of_le ih.1, ih.2⟩
/-- the class's nextLook -/
theorem lk_45 {B : EM} {n : Nat} {V : Nat → Nat → Int} (h0 : B 187 0 = n) (hn : n ≤ 81) (hv : ∀ u k : Nat, u < 121 → k < n → B 189 (121 * k + u) = V u k) (hb : ∀ u k, u < 121 → k < n → 0 ≤ V u k ∧ V u k ≤ 594) : ∃ B', E_C 45 [187] B = some (if n = 0 then -4 else ((lk_b (fun u => lk_g (V u) n) (n + 1) 121).1 : Int), B') ∧ ∀ id k, id ≠ 190 → B' id k = B id k := by
  have Gb : ∀ u, lk_g (V u) n ≤ n + 1 := fun u => Nat.le_succ_of_le (lk_g_le n)
  have lp : ∀ (d u : Nat) (x1 x2 x3 x4 : Int) (K : EM), x3 = u → u + d = 121 → x1 = ((lk_b (fun u => lk_g (V u) n) (n + 1) u).1 : Int) → x2 = ((lk_b (fun u => lk_g (V u) n) (n + 1) u).2 : Int) → (∀ id j, id ≠ 190 → K id j = B id j) → ∃ B', E_V 45 21 [187, x1, x2, x3, x4] K = some (((lk_b (fun u => lk_g (V u) n) (n + 1) 121).1 : Int), B') ∧ ∀ id k, id ≠ 190 → B' id k = B id k := by
    intro d
    induction d with
    | zero =>
      intro u x1 x2 x3 x4 K h3 hu h1 h2 hf
      have e : u = 121 := by omega
      subst e
      rw [← h1]
      refine ⟨K, ?_, hf⟩
      have q : ¬ (x3 < 121) := by omega
      clear hf h1 h2
      rw [E_V_eq]
      show e_tv E_C (E_V 45) e_t45_21 [187, x1, x2, x3, x4] K = _
      unfold e_t45_21
      simp [zq_a, zq_b, zq_c, zq_d, zq_e, zq_f, zq_g, zq_h, zq_i, zq_j, zq_k, zq_l, zq_m, zq_n, zq_o, zq_p, zq_q, zq_r, zq_s, zq_t, zq_u, zq_v, zq_w, zq_x, zq_y, zq_z, zq_A, zq_B, zq_C, zq_D, zq_E, zq_F, zq_G, zq_H, zq_I, zq_J, zq_K, zq_L, ↓zq_M, ↓zq_N, ↓zq_O, ↓zq_P, ↓zq_Q, ↓zq_R, zq_S, zq_T, zq_U, zq_V, zq_W, zq_X, zq_Y, zq_Z, zq_0, zq_1, zq_2, zq_3, zq_4, zq_5, ↓zq_6, ↓zq_7, ↓zq_8, ↓zq_9, ↓zq_aa, zq_ab, zq_ac, zq_ad, zq_ae, zq_af, zq_ag, ↓zq_ah, ↓zq_ai, ↓zq_aj, zq_ak, ↓zq_al, ↓zq_am, e_b1, e_b2, x_o1, x_o2, q]
    | succ d ih =>
      intro u x1 x2 x3 x4 K h3 hu h1 h2 hf
      obtain ⟨K', k46, kf⟩ := lk_46 (B := K) (u := x3) (v := V u) ((hf _ _ (by decide)).trans h0) hn ⟨by omega, by omega⟩ (fun k hk => by
        rw [hf _ _ (by decide), show x3.toNat = u by omega]
        exact hv u k (by omega) hk) (fun k hk => hb u k (by omega) hk)
      have hf' : ∀ id j, id ≠ 190 → K' id j = B id j := fun id j h => (kf id j h).trans (hf id j h)
      have w3 : e_w (x3 + 1) = x3 + 1 := a_w_id (by omega) (by omega)
      have q : x3 < 121 := by omega
      obtain ⟨G, hG⟩ : ∃ G : Int, (lk_g (V u) n : Int) = G := ⟨_, rfl⟩
      rw [hG] at k46
      rcases Classical.em (lk_g (V u) n < (lk_b (fun u => lk_g (V u) n) (n + 1) u).2) with c | c
      · have eb := lk_b_1 (G := fun u => lk_g (V u) n) c
        obtain ⟨B', kk, kf2⟩ := ih (u + 1) x3 G (x3 + 1) G K' (by omega) (by omega) (by rw [eb]; exact h3) (by rw [eb]; exact hG.symm) hf'
        refine ⟨B', ?_, kf2⟩
        rw [← kk]
        have c1 : G < x2 := by omega
        have c1n : ¬ x2 ≤ G := by omega
        have j45 : E_V 45 45 [187, x3, G, x3, G] K' = E_V 45 21 [187, x3, G, x3 + 1, G] K' := by
          rw [E_V_eq]
          show e_tv E_C (E_V 45) e_t45_45 [187, x3, G, x3, G] K' = _
          unfold e_t45_45
          simp [zq_a, zq_b, zq_c, zq_d, zq_e, zq_f, zq_g, zq_h, zq_i, zq_j, zq_k, zq_l, zq_m, zq_n, zq_o, zq_p, zq_q, zq_r, zq_s, zq_t, zq_u, zq_v, zq_w, zq_x, zq_y, zq_z, zq_A, zq_B, zq_C, zq_D, zq_E, zq_F, zq_G, zq_H, zq_I, zq_J, zq_K, zq_L, ↓zq_M, ↓zq_N, ↓zq_O, ↓zq_P, ↓zq_Q, ↓zq_R, zq_S, zq_T, zq_U, zq_V, zq_W, zq_X, zq_Y, zq_Z, zq_0, zq_1, zq_2, zq_3, zq_4, zq_5, ↓zq_6, ↓zq_7, ↓zq_8, ↓zq_9, ↓zq_aa, zq_ab, zq_ac, zq_ad, zq_ae, zq_af, zq_ag, ↓zq_ah, ↓zq_ai, ↓zq_aj, zq_ak, ↓zq_al, ↓zq_am, e_b1, e_b2, x_o1, x_o2, w3]
        clear kk kf2 ih hf hf' hv hb h1 h2 eb c hG kf Gb
        rw [E_V_eq]
        show e_tv E_C (E_V 45) e_t45_21 [187, x1, x2, x3, x4] K = _
        unfold e_t45_21
        simp [zq_a, zq_b, zq_c, zq_d, zq_e, zq_f, zq_g, zq_h, zq_i, zq_j, zq_k, zq_l, zq_m, zq_n, zq_o, zq_p, zq_q, zq_r, zq_s, zq_t, zq_u, zq_v, zq_w, zq_x, zq_y, zq_z, zq_A, zq_B, zq_C, zq_D, zq_E, zq_F, zq_G, zq_H, zq_I, zq_J, zq_K, zq_L, ↓zq_M, ↓zq_N, ↓zq_O, ↓zq_P, ↓zq_Q, ↓zq_R, zq_S, zq_T, zq_U, zq_V, zq_W, zq_X, zq_Y, zq_Z, zq_0, zq_1, zq_2, zq_3, zq_4, zq_5, ↓zq_6, ↓zq_7, ↓zq_8, ↓zq_9, ↓zq_aa, zq_ab, zq_ac, zq_ad, zq_ae, zq_af, zq_ag, ↓zq_ah, ↓zq_ai, ↓zq_aj, zq_ak, ↓zq_al, ↓zq_am, e_b1, e_b2, x_o1, x_o2, q, k46, c1, c1n, j45]
      · have eb := lk_b_0 (G := fun u => lk_g (V u) n) c
        obtain ⟨B', kk, kf2⟩ := ih (u + 1) x1 x2 (x3 + 1) G K' (by omega) (by omega) (by rw [eb]; exact h1) (by rw [eb]; exact h2) hf'
        refine ⟨B', ?_, kf2⟩
        rw [← kk]
        have c1 : ¬ G < x2 := by omega
        have c1n : x2 ≤ G := by omega
        have j45 : E_V 45 45 [187, x1, x2, x3, G] K' = E_V 45 21 [187, x1, x2, x3 + 1, G] K' := by
          rw [E_V_eq]
          show e_tv E_C (E_V 45) e_t45_45 [187, x1, x2, x3, G] K' = _
          unfold e_t45_45
          simp [zq_a, zq_b, zq_c, zq_d, zq_e, zq_f, zq_g, zq_h, zq_i, zq_j, zq_k, zq_l, zq_m, zq_n, zq_o, zq_p, zq_q, zq_r, zq_s, zq_t, zq_u, zq_v, zq_w, zq_x, zq_y, zq_z, zq_A, zq_B, zq_C, zq_D, zq_E, zq_F, zq_G, zq_H, zq_I, zq_J, zq_K, zq_L, ↓zq_M, ↓zq_N, ↓zq_O, ↓zq_P, ↓zq_Q, ↓zq_R, zq_S, zq_T, zq_U, zq_V, zq_W, zq_X, zq_Y, zq_Z, zq_0, zq_1, zq_2, zq_3, zq_4, zq_5, ↓zq_6, ↓zq_7, ↓zq_8, ↓zq_9, ↓zq_aa, zq_ab, zq_ac, zq_ad, zq_ae, zq_af, zq_ag, ↓zq_ah, ↓zq_ai, ↓zq_aj, zq_ak, ↓zq_al, ↓zq_am, e_b1, e_b2, x_o1, x_o2, w3]
        clear kk kf2 ih hf hf' hv hb h1 h2 eb c hG kf Gb
        rw [E_V_eq]
        show e_tv E_C (E_V 45) e_t45_21 [187, x1, x2, x3, x4] K = _
        unfold e_t45_21
        simp [zq_a, zq_b, zq_c, zq_d, zq_e, zq_f, zq_g, zq_h, zq_i, zq_j, zq_k, zq_l, zq_m, zq_n, zq_o, zq_p, zq_q, zq_r, zq_s, zq_t, zq_u, zq_v, zq_w, zq_x, zq_y, zq_z, zq_A, zq_B, zq_C, zq_D, zq_E, zq_F, zq_G, zq_H, zq_I, zq_J, zq_K, zq_L, ↓zq_M, ↓zq_N, ↓zq_O, ↓zq_P, ↓zq_Q, ↓zq_R, zq_S, zq_T, zq_U, zq_V, zq_W, zq_X, zq_Y, zq_Z, zq_0, zq_1, zq_2, zq_3, zq_4, zq_5, ↓zq_6, ↓zq_7, ↓zq_8, ↓zq_9, ↓zq_aa, zq_ab, zq_ac, zq_ad, zq_ae, zq_af, zq_ag, ↓zq_ah, ↓zq_ai, ↓zq_aj, zq_ak, ↓zq_al, ↓zq_am, e_b1, e_b2, x_o1, x_o2, q, k46, c1, c1n, j45]
  rw [r_ent (show e_rok 45 [187] = true from dg_r rfl (by decide +kernel))]
  by_cases z : n = 0
  · rw [if_pos z]
    have z0 : B 187 0 = 0 := by omega
    refine ⟨B, ?_, fun _ _ _ => rfl⟩
    show e_tv E_C (E_V 45) e_t45_0 [187, 0, 0, 0, 0] B = _
    unfold e_t45_0
    simp [zq_a, zq_b, zq_c, zq_d, zq_e, zq_f, zq_g, zq_h, zq_i, zq_j, zq_k, zq_l, zq_m, zq_n, zq_o, zq_p, zq_q, zq_r, zq_s, zq_t, zq_u, zq_v, zq_w, zq_x, zq_y, zq_z, zq_A, zq_B, zq_C, zq_D, zq_E, zq_F, zq_G, zq_H, zq_I, zq_J, zq_K, zq_L, ↓zq_M, ↓zq_N, ↓zq_O, ↓zq_P, ↓zq_Q, ↓zq_R, zq_S, zq_T, zq_U, zq_V, zq_W, zq_X, zq_Y, zq_Z, zq_0, zq_1, zq_2, zq_3, zq_4, zq_5, ↓zq_6, ↓zq_7, ↓zq_8, ↓zq_9, ↓zq_aa, zq_ab, zq_ac, zq_ad, zq_ae, zq_af, zq_ag, ↓zq_ah, ↓zq_ai, ↓zq_aj, zq_ak, ↓zq_al, ↓zq_am, e_b1, e_b2, x_o1, x_o2, dg_F0, z0]
  · rw [if_neg z]
    obtain ⟨B', kk, kf⟩ := lp 121 0 0 ((n : Int) + 1) 0 0 B rfl rfl rfl (by show (n : Int) + 1 = ((n + 1 : Nat) : Int); omega) (fun _ _ _ => rfl)
    refine ⟨B', ?_, kf⟩
    rw [← kk]
    have zz : ¬ (n : Int) = 0 := by omega
    have w1 : e_w ((n : Int) + 1) = (n : Int) + 1 := a_w_id (by omega) (by omega)
    clear kk kf lp hv hb Gb
    generalize (n : Int) = nn at *
    show e_tv E_C (E_V 45) e_t45_0 [187, 0, 0, 0, 0] B = _
    unfold e_t45_0
    simp [zq_a, zq_b, zq_c, zq_d, zq_e, zq_f, zq_g, zq_h, zq_i, zq_j, zq_k, zq_l, zq_m, zq_n, zq_o, zq_p, zq_q, zq_r, zq_s, zq_t, zq_u, zq_v, zq_w, zq_x, zq_y, zq_z, zq_A, zq_B, zq_C, zq_D, zq_E, zq_F, zq_G, zq_H, zq_I, zq_J, zq_K, zq_L, ↓zq_M, ↓zq_N, ↓zq_O, ↓zq_P, ↓zq_Q, ↓zq_R, zq_S, zq_T, zq_U, zq_V, zq_W, zq_X, zq_Y, zq_Z, zq_0, zq_1, zq_2, zq_3, zq_4, zq_5, ↓zq_6, ↓zq_7, ↓zq_8, ↓zq_9, ↓zq_aa, zq_ab, zq_ac, zq_ad, zq_ae, zq_af, zq_ag, ↓zq_ah, ↓zq_ai, ↓zq_aj, zq_ak, ↓zq_al, ↓zq_am, e_b1, e_b2, x_o1, x_o2, dg_F0, h0, zz, w1]
/-- the i-th that FITS -/
def ft_n (Q : Nat → Int) : Nat → Nat → Nat
  | 0, _ => 0
  | n + 1, i => if Q n ≠ 0 ∧ gd_n Q n = i then n else ft_n Q n i
theorem ft_n_e {Q : Nat → Int} {i j : Nat} (hq : Q j ≠ 0) (hi : gd_n Q j = i) : ∀ n, j < n → ft_n Q n i = j := by
  intro n
  induction n with
  | zero => intro h; exact absurd h (Nat.not_lt_zero _)
  | succ n ih =>
    intro h
    rcases Nat.lt_or_ge j n with c | c
    · have a := gd_n_m (D := Q) (m := j + 1) (n - (j + 1))
      rw [gd_n_1 hq, show j + 1 + (n - (j + 1)) = n by omega] at a
      refine (if_neg (fun e => ?_)).trans (ih c)
      omega
    · have e : j = n := by omega
      subst e
      exact if_pos ⟨hq, hi⟩
theorem ft_ex {Q : Nat → Int} {i : Nat} : ∀ n, i < gd_n Q n → ∃ j, j < n ∧ Q j ≠ 0 ∧ gd_n Q j = i := by
  intro n
  induction n with
  | zero => intro h; exact absurd h (Nat.not_lt_zero _)
  | succ n ih =>
    intro h
    rcases Classical.em (i < gd_n Q n) with c | c
    · obtain ⟨j, h1, h2, h3⟩ := ih c
      exact ⟨j, by omega, h2, h3⟩
    · by_cases z : Q n = 0
      · rw [gd_n_0 z] at h
        exact absurd h c
      · rw [gd_n_1 z] at h
        exact ⟨n, by omega, z, by omega⟩
def ft_r (Q : Nat → Int) (n : Nat) (i : Int) : Int := if i < 0 then (gd_n Q n : Int) else if i < (gd_n Q n : Int) then (ft_n Q n i.toNat : Int) else -4
theorem ft_44 {B : EM} {Q : Nat → Int} {F : Nat → Int → Int} {n : Nat} {i : Int} (R : ft_R Q F B n) (hn : n ≤ 81) : E_C 44 [187, i] B = some (ft_r Q n i, B) := by
  obtain ⟨r1, r2⟩ := R
  have gl := gd_n_le (D := Q) n
  rw [r_ent (show e_rok 44 [187, i] = true from dg_r rfl (by decide +kernel))]
  show e_tv E_C (E_V 44) e_t44_0 [187, i] B = _
  unfold e_t44_0 ft_r
  rcases x_lt i 0 with ⟨c0, c0_n⟩ | ⟨c0, c0_n⟩
  · rw [if_pos c0]
    clear r2
    generalize (gd_n Q n : Int) = z at *
    simp [zq_a, zq_b, zq_c, zq_d, zq_e, zq_f, zq_g, zq_h, zq_i, zq_j, zq_k, zq_l, zq_m, zq_n, zq_o, zq_p, zq_q, zq_r, zq_s, zq_t, zq_u, zq_v, zq_w, zq_x, zq_y, zq_z, zq_A, zq_B, zq_C, zq_D, zq_E, zq_F, zq_G, zq_H, zq_I, zq_J, zq_K, zq_L, ↓zq_M, ↓zq_N, ↓zq_O, ↓zq_P, ↓zq_Q, ↓zq_R, zq_S, zq_T, zq_U, zq_V, zq_W, zq_X, zq_Y, zq_Z, zq_0, zq_1, zq_2, zq_3, zq_4, zq_5, ↓zq_6, ↓zq_7, ↓zq_8, ↓zq_9, ↓zq_aa, zq_ab, zq_ac, zq_ad, zq_ae, zq_af, zq_ag, ↓zq_ah, ↓zq_ai, ↓zq_aj, zq_ak, ↓zq_al, ↓zq_am, e_b1, e_b2, x_o1, x_o2, dg_F0, r1, c0, c0_n]
  · rw [if_neg c0]
    rcases x_lt i ((gd_n Q n : Int)) with ⟨c1, c1_n⟩ | ⟨c1, c1_n⟩
    · rw [if_pos c1]
      obtain ⟨j, h1, h2, h3⟩ := ft_ex n (show i.toNat < gd_n Q n by omega)
      have t : E_C 146 [188, i] B = some ((ft_n Q n i.toNat : Int), B) := (w_atN (a := 188) (n := 81) (by decide +kernel) (j := i.toNat) (by omega) (by omega) B).trans (by
        have z := (r2 j h1 h2).1
        rw [h3] at z
        rw [show (188 : Int).toNat = 188 from rfl, z, ft_n_e h2 h3 n h1])
      clear r2
      generalize (gd_n Q n : Int) = z at *
      generalize (ft_n Q n i.toNat : Int) = y at *
      simp [zq_a, zq_b, zq_c, zq_d, zq_e, zq_f, zq_g, zq_h, zq_i, zq_j, zq_k, zq_l, zq_m, zq_n, zq_o, zq_p, zq_q, zq_r, zq_s, zq_t, zq_u, zq_v, zq_w, zq_x, zq_y, zq_z, zq_A, zq_B, zq_C, zq_D, zq_E, zq_F, zq_G, zq_H, zq_I, zq_J, zq_K, zq_L, ↓zq_M, ↓zq_N, ↓zq_O, ↓zq_P, ↓zq_Q, ↓zq_R, zq_S, zq_T, zq_U, zq_V, zq_W, zq_X, zq_Y, zq_Z, zq_0, zq_1, zq_2, zq_3, zq_4, zq_5, ↓zq_6, ↓zq_7, ↓zq_8, ↓zq_9, ↓zq_aa, zq_ab, zq_ac, zq_ad, zq_ae, zq_af, zq_ag, ↓zq_ah, ↓zq_ai, ↓zq_aj, zq_ak, ↓zq_al, ↓zq_am, e_b1, e_b2, x_o1, x_o2, dg_F0, dg_G1, r1, c0, c0_n, c0_n, c1, c1_n, c1_n, t]
    · rw [if_neg c1]
      clear r2
      generalize (gd_n Q n : Int) = z at *
      simp [zq_a, zq_b, zq_c, zq_d, zq_e, zq_f, zq_g, zq_h, zq_i, zq_j, zq_k, zq_l, zq_m, zq_n, zq_o, zq_p, zq_q, zq_r, zq_s, zq_t, zq_u, zq_v, zq_w, zq_x, zq_y, zq_z, zq_A, zq_B, zq_C, zq_D, zq_E, zq_F, zq_G, zq_H, zq_I, zq_J, zq_K, zq_L, ↓zq_M, ↓zq_N, ↓zq_O, ↓zq_P, ↓zq_Q, ↓zq_R, zq_S, zq_T, zq_U, zq_V, zq_W, zq_X, zq_Y, zq_Z, zq_0, zq_1, zq_2, zq_3, zq_4, zq_5, ↓zq_6, ↓zq_7, ↓zq_8, ↓zq_9, ↓zq_aa, zq_ab, zq_ac, zq_ad, zq_ae, zq_af, zq_ag, ↓zq_ah, ↓zq_ai, ↓zq_aj, zq_ak, ↓zq_al, ↓zq_am, e_b1, e_b2, x_o1, x_o2, dg_F0, r1, c0, c0_n, c0_n, c1, c1_n, c1_n]
