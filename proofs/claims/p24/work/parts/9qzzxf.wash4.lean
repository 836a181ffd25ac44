section
/-! washing days: the class's answers -/
def ws_V (y : Nat → Nat → Int) (n : Nat) (p : Int) (K : EM) (k : Nat) : Prop := wh_C y n p (fun u => K 184 u) (fun u => K 185 u) (fun u => (K 186 u).toNat) k ∧ ∀ u, k ≤ u → u ≤ n → ((-9999 * ((n : Int) - (u : Int)) ≤ K 184 u ∧ K 184 u ≤ 999 * ((n : Int) - (u : Int))) ∧ 0 ≤ K 185 u ∧ K 185 u ≤ (n : Int) - (u : Int)) ∧ K 186 u = (((K 186 u).toNat : Nat) : Int) ∧ (K 186 u).toNat ≤ n
section WSP
variable {n : Nat} {s r p : Int} {G : Nat → Int}
theorem ws_V1 {K0 K : EM} {c : Nat} (hn : n ≤ 30) (hc : c < n) (hr : 0 ≤ r ∧ r ≤ 20) (hp : 0 ≤ p ∧ p ≤ 9999) (hG : ∀ k, k < n → 0 ≤ G k ∧ G k ≤ 999) (hV : ws_V (wh_y G r) n p K0 (c + 1)) (f : ∀ id k, ¬ (184 ≤ id ∧ id ≤ 186 ∧ k = c) → K id k = K0 id k) (hS : ws_S G r n p (fun u => K0 184 u) (fun u => K0 185 u) c K (n + 1)) : ws_V (wh_y G r) n p K c := by
  obtain ⟨v1, v2⟩ := hV
  have hO : ws_O K0 c n (fun u => K0 184 u) (fun u => K0 185 u) := fun u h1 h2 => ⟨rfl, rfl, (v2 u h1 h2).1⟩
  obtain ⟨b, ⟨b1, b2⟩, b3, b4, b5, b6⟩ := hS
  have bb := wk_b hn hr hp hG hO b1 (show b ≤ n by omega)
  have e4 : ∀ u, c < u → K 184 u = K0 184 u := fun u h => f _ _ (by omega)
  have e5 : ∀ u, c < u → K 185 u = K0 185 u := fun u h => f _ _ (by omega)
  have e6 : ∀ u, c < u → K 186 u = K0 186 u := fun u h => f _ _ (by omega)
  have eF : ∀ c' u, c < u → wh_F (wh_y G r) n p (fun u => K 184 u) (fun u => K 185 u) c' u = wh_F (wh_y G r) n p (fun u => K0 184 u) (fun u => K0 185 u) c' u := fun c' u h => by
    show 64 * wh_A (wh_y G r) c' (u - c') + (if u < n then 64 * (K 184 u - p) - (K 185 u + 1) else 0) = 64 * wh_A (wh_y G r) c' (u - c') + (if u < n then 64 * (K0 184 u - p) - (K0 185 u + 1) else 0)
    rw [e4 u h, e5 u h]
  refine ⟨fun c' h1 h2 => ?_, fun u h1 h2 => ?_⟩
  · by_cases e : c' = c
    · subst e
      have eN : (K 186 c').toNat = b := by rw [b5, Int.toNat_natCast]
      show (c' < (K 186 c').toNat ∧ (K 186 c').toNat ≤ n) ∧ K 184 c' = wh_A (wh_y G r) c' ((K 186 c').toNat - c') + (if (K 186 c').toNat < n then K 184 (K 186 c').toNat - p else 0) ∧ K 185 c' = (if (K 186 c').toNat < n then K 185 (K 186 c').toNat + 1 else 0) ∧ ∀ u, c' < u → u ≤ n → wh_F (wh_y G r) n p (fun u => K 184 u) (fun u => K 185 u) c' u ≤ wh_F (wh_y G r) n p (fun u => K 184 u) (fun u => K 185 u) c' (K 186 c').toNat ∧ ((K 186 c').toNat < u → wh_F (wh_y G r) n p (fun u => K 184 u) (fun u => K 185 u) c' u < wh_F (wh_y G r) n p (fun u => K 184 u) (fun u => K 185 u) c' (K 186 c').toNat)
      rw [eN, e4 b b1, e5 b b1]
      refine ⟨⟨b1, by omega⟩, b3, b4, fun u u1 u2 => ?_⟩
      rw [eF c' u u1, eF c' b b1]
      exact b6 u u1 (by omega)
    · obtain ⟨⟨a1, a2⟩, a3, a4, a5⟩ := v1 c' (by omega) h2
      have cc : c < c' := by omega
      show (c' < (K 186 c').toNat ∧ (K 186 c').toNat ≤ n) ∧ K 184 c' = wh_A (wh_y G r) c' ((K 186 c').toNat - c') + (if (K 186 c').toNat < n then K 184 (K 186 c').toNat - p else 0) ∧ K 185 c' = (if (K 186 c').toNat < n then K 185 (K 186 c').toNat + 1 else 0) ∧ ∀ u, c' < u → u ≤ n → wh_F (wh_y G r) n p (fun u => K 184 u) (fun u => K 185 u) c' u ≤ wh_F (wh_y G r) n p (fun u => K 184 u) (fun u => K 185 u) c' (K 186 c').toNat ∧ ((K 186 c').toNat < u → wh_F (wh_y G r) n p (fun u => K 184 u) (fun u => K 185 u) c' u < wh_F (wh_y G r) n p (fun u => K 184 u) (fun u => K 185 u) c' (K 186 c').toNat)
      have a1' : c' < (K0 186 c').toNat := a1
      have a2' : (K0 186 c').toNat ≤ n := a2
      rw [e6 c' cc, e4 c' cc, e5 c' cc, e4 (K0 186 c').toNat (by omega), e5 (K0 186 c').toNat (by omega)]
      refine ⟨⟨a1', a2'⟩, a3, a4, fun u u1 u2 => ?_⟩
      rw [eF c' u (by omega), eF c' (K0 186 c').toNat (by omega)]
      exact a5 u u1 u2
  · by_cases e : u = c
    · subst e
      rw [b3, b4, b5, Int.toNat_natCast]
      exact ⟨bb, rfl, by omega⟩
    · rw [e4 u (by omega), e5 u (by omega), e6 u (by omega)]
      exact v2 u (by omega) h2
theorem ws_100 {K0 : EM} (hn : 1 ≤ n ∧ n ≤ 30) (hh : s ∈ a_SH) (hr : 0 ≤ r ∧ r ≤ 20) (hp : 0 ≤ p ∧ p ≤ 9999) (h5 : K0 s.toNat 5 = n) (hK : ∀ k, k < n → K0 (s + 1).toNat k = G k) (hG : ∀ k, k < n → 0 ≤ G k ∧ G k ≤ 999) : ∃ K', E_C 100 [183, s, r, p] K0 = some (0, K') ∧ ws_V (wh_y G r) n p K' 0 ∧ ∀ id k, ¬ (183 ≤ id ∧ id ≤ 186) → K' id k = K0 id k := by
  obtain ⟨g1, g2, g3, g4, g5, g6, g7⟩ := w_sh hh
  have lp : ∀ (c : Nat) (x4 : Int) (K : EM), x4 = (c : Int) - 1 → c ≤ n → K 183 0 = n → (∀ id k, ¬ (183 ≤ id ∧ id ≤ 186) → K id k = K0 id k) → ws_V (wh_y G r) n p K c → ∃ K', E_V 100 55 [183, s, r, p, x4] K = some (0, K') ∧ ws_V (wh_y G r) n p K' 0 ∧ ∀ id k, ¬ (183 ≤ id ∧ id ≤ 186) → K' id k = K0 id k := by
    intro c
    induction c with
    | zero =>
      intro x4 K h4 hc k0 hf hV
      refine ⟨K, ?_, hV, hf⟩
      have q : ¬ (0 ≤ x4) := by omega
      have qn : x4 < 0 := by omega
      clear hV hf
      rw [E_V_eq]
      show e_tv E_C (E_V 100) e_t100_55 [183, s, r, p, x4] K = _
      unfold e_t100_55
      simp [zq_a, zq_b, zq_c, zq_d, zq_e, zq_f, zq_g, zq_h, zq_i, zq_j, zq_k, zq_l, zq_m, zq_n, zq_o, zq_p, zq_q, zq_r, zq_s, zq_t, zq_u, zq_v, zq_w, zq_x, zq_y, zq_z, zq_A, zq_B, zq_C, zq_D, zq_E, zq_F, zq_G, zq_H, zq_I, zq_J, zq_K, zq_L, ↓zq_M, ↓zq_N, ↓zq_O, ↓zq_P, ↓zq_Q, ↓zq_R, zq_S, zq_T, zq_U, zq_V, zq_W, zq_X, zq_Y, zq_Z, zq_0, zq_1, zq_2, zq_3, zq_4, zq_5, ↓zq_6, ↓zq_7, ↓zq_8, ↓zq_9, ↓zq_aa, zq_ab, zq_ac, zq_ad, zq_ae, zq_af, zq_ag, ↓zq_ah, ↓zq_ai, ↓zq_aj, zq_ak, ↓zq_al, ↓zq_am, e_b1, e_b2, x_o1, x_o2, q, qn]
    | succ c ih =>
      intro x4 K h4 hc k0 hf hV
      have e4 : x4 = (c : Int) := by omega
      subst e4
      obtain ⟨K1, k1, f1, s1⟩ := ws_101 (K0 := K) (M := fun u => K 184 u) (W := fun u => K 185 u) (show c < n by omega) hn.2 hh hr hp (fun k hk => (hf _ _ (by omega)).trans (hK k hk)) hG (fun u h1 h2 => ⟨rfl, rfl, (hV.2 u h1 h2).1⟩) k0
      obtain ⟨K', k, v, f⟩ := ih ((c : Int) - 1) K1 rfl (by omega) ((f1 _ _ (by omega)).trans k0) (fun id k h => (f1 _ _ (by omega)).trans (hf id k h)) (ws_V1 hn.2 (by omega) hr hp hG hV f1 s1)
      refine ⟨K', ?_, v, f⟩
      have w1 : e_w ((c : Int) + -1) = (c : Int) - 1 := a_w_id (by omega) (by omega)
      have q : 0 ≤ (c : Int) := by omega
      have qn : ¬ (c : Int) < 0 := by omega
      clear hV hf v f f1 s1 ih hK hG
      generalize (c : Int) = cc at *
      rw [E_V_eq]
      show e_tv E_C (E_V 100) e_t100_55 [183, s, r, p, cc] K = _
      unfold e_t100_55
      simp [zq_a, zq_b, zq_c, zq_d, zq_e, zq_f, zq_g, zq_h, zq_i, zq_j, zq_k, zq_l, zq_m, zq_n, zq_o, zq_p, zq_q, zq_r, zq_s, zq_t, zq_u, zq_v, zq_w, zq_x, zq_y, zq_z, zq_A, zq_B, zq_C, zq_D, zq_E, zq_F, zq_G, zq_H, zq_I, zq_J, zq_K, zq_L, ↓zq_M, ↓zq_N, ↓zq_O, ↓zq_P, ↓zq_Q, ↓zq_R, zq_S, zq_T, zq_U, zq_V, zq_W, zq_X, zq_Y, zq_Z, zq_0, zq_1, zq_2, zq_3, zq_4, zq_5, ↓zq_6, ↓zq_7, ↓zq_8, ↓zq_9, ↓zq_aa, zq_ab, zq_ac, zq_ad, zq_ae, zq_af, zq_ag, ↓zq_ah, ↓zq_ai, ↓zq_aj, zq_ak, ↓zq_al, ↓zq_am, e_b1, e_b2, x_o1, x_o2, q, qn, k1, w1, k]
  obtain ⟨-, -, -, f5⟩ := h_sf hh K0
  rw [h5] at f5
  have z0 : (e_up K0 183 0 (n : Int)) 183 0 = (n : Int) := c_up_s
  have l1 : E_C 147 [184, (n : Int), 0] (e_up K0 183 0 (n : Int)) = some (0, e_up (e_up K0 183 0 (n : Int)) 184 n 0) := w_layN (a := 184) (n := 31) (by decide +kernel) (j := n) rfl (by omega) _ _
  have l2 : E_C 147 [185, (n : Int), 0] (e_up (e_up K0 183 0 (n : Int)) 184 n 0) = some (0, e_up (e_up (e_up K0 183 0 (n : Int)) 184 n 0) 185 n 0) := w_layN (a := 185) (n := 31) (by decide +kernel) (j := n) rfl (by omega) _ _
  have l3 : E_C 147 [186, (n : Int), (n : Int)] (e_up (e_up (e_up K0 183 0 (n : Int)) 184 n 0) 185 n 0) = some (0, e_up (e_up (e_up (e_up K0 183 0 (n : Int)) 184 n 0) 185 n 0) 186 n (n : Int)) := w_layN (a := 186) (n := 31) (by decide +kernel) (j := n) rfl (by omega) _ _
  obtain ⟨A, hA⟩ : ∃ A, e_up (e_up (e_up (e_up K0 183 0 (n : Int)) 184 n 0) 185 n 0) 186 n (n : Int) = A := ⟨_, rfl⟩
  obtain ⟨K', k, v, f⟩ := lp n ((n : Int) - 1) A rfl (Nat.le_refl _) (by rw [← hA, c_up_n (by omega), c_up_n (by omega), c_up_n (by omega), c_up_s]) (fun id k h => by rw [← hA, c_up_n (by omega), c_up_n (by omega), c_up_n (by omega), c_up_n (by omega)]) ⟨fun c h1 h2 => by omega, fun u h1 h2 => by
    have e : u = n := by omega
    subst e
    rw [show A 184 u = 0 by rw [← hA, c_up_n (by omega), c_up_n (by omega), c_up_s], show A 185 u = 0 by rw [← hA, c_up_n (by omega), c_up_s], show A 186 u = (u : Int) by rw [← hA, c_up_s], Int.toNat_natCast]
    exact ⟨⟨⟨by omega, by omega⟩, by omega, by omega⟩, rfl, Nat.le_refl _⟩⟩
  refine ⟨K', ?_, v, f⟩
  rw [hA] at l3
  have z1 : (e_up (e_up K0 183 0 (n : Int)) 184 n 0) 183 0 = (n : Int) := (c_up_n (by omega)).trans z0
  have z2 : (e_up (e_up (e_up K0 183 0 (n : Int)) 184 n 0) 185 n 0) 183 0 = (n : Int) := (c_up_n (by omega)).trans z1
  have z3 : A 183 0 = (n : Int) := by rw [← hA]; exact (c_up_n (by omega)).trans z2
  have w1 : e_w ((n : Int) - 1) = (n : Int) - 1 := a_w_id (by omega) (by omega)
  clear hA v f lp hK hG
  generalize e_up (e_up (e_up K0 183 0 (n : Int)) 184 n 0) 185 n 0 = A3 at *
  generalize e_up (e_up K0 183 0 (n : Int)) 184 n 0 = A2 at *
  obtain ⟨nn, hnn⟩ : ∃ nn : Int, (n : Int) = nn := ⟨_, rfl⟩
  rw [hnn] at *
  generalize hA1 : e_up K0 183 0 nn = A1 at *
  rw [r_ent (show e_rok 100 [183, s, r, p] = true from ws_r rfl (by decide +kernel))]
  show e_tv E_C (E_V 100) e_t100_0 [183, s, r, p, 0] K0 = _
  unfold e_t100_0
  simp [zq_a, zq_b, zq_c, zq_d, zq_e, zq_f, zq_g, zq_h, zq_i, zq_j, zq_k, zq_l, zq_m, zq_n, zq_o, zq_p, zq_q, zq_r, zq_s, zq_t, zq_u, zq_v, zq_w, zq_x, zq_y, zq_z, zq_A, zq_B, zq_C, zq_D, zq_E, zq_F, zq_G, zq_H, zq_I, zq_J, zq_K, zq_L, ↓zq_M, ↓zq_N, ↓zq_O, ↓zq_P, ↓zq_Q, ↓zq_R, zq_S, zq_T, zq_U, zq_V, zq_W, zq_X, zq_Y, zq_Z, zq_0, zq_1, zq_2, zq_3, zq_4, zq_5, ↓zq_6, ↓zq_7, ↓zq_8, ↓zq_9, ↓zq_aa, zq_ab, zq_ac, zq_ad, zq_ae, zq_af, zq_ag, ↓zq_ah, ↓zq_ai, ↓zq_aj, zq_ak, ↓zq_al, ↓zq_am, e_b1, e_b2, x_o1, x_o2, ws_F0, ws_P0, ws_G1, ws_G2, ws_G3, f5, hA1, z0, z1, z2, z3, l1, l2, l3, w1, k]
/-- GAINS as they must be -/
def ws_g (G : Nat → Int) (n : Nat) : Prop := (1 ≤ n ∧ n ≤ 30) ∧ ∀ k, k < n → 0 ≤ G k ∧ G k ≤ 999
theorem ws_162 {K : EM} (hh : s ∈ a_SH) (hn : n ≤ 120) (h5 : K s.toNat 5 = n) (hK : ∀ k, k < n → K (s + 1).toNat k = G k) : ∃ z, E_C 162 [s] K = some (z, K) ∧ (z ≠ 0 ↔ ws_g G n) := by
  obtain ⟨g1, g2, g3, g4, g5, g6, g7⟩ := w_sh hh
  have f6 : e_gf 518 [s] K = some (s + 1) := (c_gr g1 (by decide +kernel)).trans (congrArg some g5)
  obtain ⟨-, -, -, f5⟩ := h_sf hh K
  rw [h5] at f5
  have lp : ∀ (t k : Nat) (x1 x2 : Int), x1 = k → k + t = n → (∀ j, j < k → 0 ≤ G j ∧ G j ≤ 999) → ∃ z, E_V 162 21 [s, x1, x2] K = some (z, K) ∧ (z ≠ 0 ↔ ∀ j, j < n → 0 ≤ G j ∧ G j ≤ 999) := by
    intro t
    induction t with
    | zero =>
      intro k x1 x2 h1 hk hg
      have e : k = n := by omega
      subst e
      refine ⟨1, ?_, fun _ => hg, fun _ => by decide⟩
      have q : ¬ (x1 < (k : Int)) := by omega
      clear hg hK
      generalize (k : Int) = nn at *
      rw [E_V_eq]
      show e_tv E_C (E_V 162) e_t162_21 [s, x1, x2] K = _
      unfold e_t162_21
      simp [zq_a, zq_b, zq_c, zq_d, zq_e, zq_f, zq_g, zq_h, zq_i, zq_j, zq_k, zq_l, zq_m, zq_n, zq_o, zq_p, zq_q, zq_r, zq_s, zq_t, zq_u, zq_v, zq_w, zq_x, zq_y, zq_z, zq_A, zq_B, zq_C, zq_D, zq_E, zq_F, zq_G, zq_H, zq_I, zq_J, zq_K, zq_L, ↓zq_M, ↓zq_N, ↓zq_O, ↓zq_P, ↓zq_Q, ↓zq_R, zq_S, zq_T, zq_U, zq_V, zq_W, zq_X, zq_Y, zq_Z, zq_0, zq_1, zq_2, zq_3, zq_4, zq_5, ↓zq_6, ↓zq_7, ↓zq_8, ↓zq_9, ↓zq_aa, zq_ab, zq_ac, zq_ad, zq_ae, zq_af, zq_ag, ↓zq_ah, ↓zq_ai, ↓zq_aj, zq_ak, ↓zq_al, ↓zq_am, e_b1, e_b2, x_o1, x_o2, f5, q]
    | succ t ih =>
      intro k x1 x2 h1 hk hg
      have q : x1 < (n : Int) := by omega
      have tg : E_C 146 [s + 1, x1] K = some (G k, K) := (w_atN (a := s + 1) (n := 120) ⟨g2, g3, g4⟩ (j := k) h1 (by omega) K).trans (by rw [hK _ (by omega)])
      have w1 : e_w (x1 + 1) = x1 + 1 := a_w_id (by omega) (by omega)
      by_cases c : 0 ≤ G k ∧ G k ≤ 999
      · obtain ⟨z, kz, hz⟩ := ih (k + 1) (x1 + 1) (G k) (by omega) (by omega) (fun j hj => by
          by_cases e : j = k
          · rw [e]; exact c
          · exact hg j (by omega))
        refine ⟨z, ?_, hz⟩
        obtain ⟨c1, c2⟩ := c
        have c1n : ¬ G k < 0 := by omega
        have c2n : ¬ 999 < G k := by omega
        rw [← kz]
        clear hg hK hz kz ih
        generalize (n : Int) = nn at *
        generalize G k = gk at *
        rw [E_V_eq]
        show e_tv E_C (E_V 162) e_t162_21 [s, x1, x2] K = _
        unfold e_t162_21
        simp [zq_a, zq_b, zq_c, zq_d, zq_e, zq_f, zq_g, zq_h, zq_i, zq_j, zq_k, zq_l, zq_m, zq_n, zq_o, zq_p, zq_q, zq_r, zq_s, zq_t, zq_u, zq_v, zq_w, zq_x, zq_y, zq_z, zq_A, zq_B, zq_C, zq_D, zq_E, zq_F, zq_G, zq_H, zq_I, zq_J, zq_K, zq_L, ↓zq_M, ↓zq_N, ↓zq_O, ↓zq_P, ↓zq_Q, ↓zq_R, zq_S, zq_T, zq_U, zq_V, zq_W, zq_X, zq_Y, zq_Z, zq_0, zq_1, zq_2, zq_3, zq_4, zq_5, ↓zq_6, ↓zq_7, ↓zq_8, ↓zq_9, ↓zq_aa, zq_ab, zq_ac, zq_ad, zq_ae, zq_af, zq_ag, ↓zq_ah, ↓zq_ai, ↓zq_aj, zq_ak, ↓zq_al, ↓zq_am, e_b1, e_b2, x_o1, x_o2, f5, f6, q, tg, c1, c1n, c2, c2n, w1]
      · refine ⟨0, ?_, fun h => absurd rfl h, fun h => absurd (h k (by omega)) c⟩
        clear hg hK ih
        generalize (n : Int) = nn at *
        generalize G k = gk at *
        rcases x_le 0 gk with ⟨c1, c1_n⟩ | ⟨c1, c1_n⟩
        · have c2 : 999 < gk := by
            rcases Classical.em (gk ≤ 999) with y | y
            · exact absurd ⟨c1, y⟩ c
            · omega
          have c2n : ¬ gk ≤ 999 := by omega
          rw [E_V_eq]
          show e_tv E_C (E_V 162) e_t162_21 [s, x1, x2] K = _
          unfold e_t162_21
          simp [zq_a, zq_b, zq_c, zq_d, zq_e, zq_f, zq_g, zq_h, zq_i, zq_j, zq_k, zq_l, zq_m, zq_n, zq_o, zq_p, zq_q, zq_r, zq_s, zq_t, zq_u, zq_v, zq_w, zq_x, zq_y, zq_z, zq_A, zq_B, zq_C, zq_D, zq_E, zq_F, zq_G, zq_H, zq_I, zq_J, zq_K, zq_L, ↓zq_M, ↓zq_N, ↓zq_O, ↓zq_P, ↓zq_Q, ↓zq_R, zq_S, zq_T, zq_U, zq_V, zq_W, zq_X, zq_Y, zq_Z, zq_0, zq_1, zq_2, zq_3, zq_4, zq_5, ↓zq_6, ↓zq_7, ↓zq_8, ↓zq_9, ↓zq_aa, zq_ab, zq_ac, zq_ad, zq_ae, zq_af, zq_ag, ↓zq_ah, ↓zq_ai, ↓zq_aj, zq_ak, ↓zq_al, ↓zq_am, e_b1, e_b2, x_o1, x_o2, f5, f6, q, tg, c1, c1_n, c2, c2n]
        · rw [E_V_eq]
          show e_tv E_C (E_V 162) e_t162_21 [s, x1, x2] K = _
          unfold e_t162_21
          simp [zq_a, zq_b, zq_c, zq_d, zq_e, zq_f, zq_g, zq_h, zq_i, zq_j, zq_k, zq_l, zq_m, zq_n, zq_o, zq_p, zq_q, zq_r, zq_s, zq_t, zq_u, zq_v, zq_w, zq_x, zq_y, zq_z, zq_A, zq_B, zq_C, zq_D, zq_E, zq_F, zq_G, zq_H, zq_I, zq_J, zq_K, zq_L, ↓zq_M, ↓zq_N, ↓zq_O, ↓zq_P, ↓zq_Q, ↓zq_R, zq_S, zq_T, zq_U, zq_V, zq_W, zq_X, zq_Y, zq_Z, zq_0, zq_1, zq_2, zq_3, zq_4, zq_5, ↓zq_6, ↓zq_7, ↓zq_8, ↓zq_9, ↓zq_aa, zq_ab, zq_ac, zq_ad, zq_ae, zq_af, zq_ag, ↓zq_ah, ↓zq_ai, ↓zq_aj, zq_ak, ↓zq_al, ↓zq_am, e_b1, e_b2, x_o1, x_o2, f5, f6, q, tg, c1, c1_n]
  rw [r_ent (show e_rok 162 [s] = true from rfl)]
  show ∃ z, e_tv E_C (E_V 162) e_t162_0 [s, 0, 0] K = some (z, K) ∧ (z ≠ 0 ↔ ws_g G n)
  unfold e_t162_0 ws_g
  by_cases c : 1 ≤ n ∧ n ≤ 30
  · obtain ⟨z, kz, hz⟩ := lp n 0 0 0 rfl (by omega) (fun j h => absurd h (Nat.not_lt_zero _))
    refine ⟨z, ?_, fun h => ⟨c, hz.mp h⟩, fun h => hz.mpr h.2⟩
    have c1 : 1 ≤ (n : Int) := by omega
    have c1n : ¬ (n : Int) < 1 := by omega
    have c2 : (n : Int) ≤ 30 := by omega
    have c2n : ¬ 30 < (n : Int) := by omega
    clear lp hK hz
    generalize (n : Int) = nn at *
    simp [zq_a, zq_b, zq_c, zq_d, zq_e, zq_f, zq_g, zq_h, zq_i, zq_j, zq_k, zq_l, zq_m, zq_n, zq_o, zq_p, zq_q, zq_r, zq_s, zq_t, zq_u, zq_v, zq_w, zq_x, zq_y, zq_z, zq_A, zq_B, zq_C, zq_D, zq_E, zq_F, zq_G, zq_H, zq_I, zq_J, zq_K, zq_L, ↓zq_M, ↓zq_N, ↓zq_O, ↓zq_P, ↓zq_Q, ↓zq_R, zq_S, zq_T, zq_U, zq_V, zq_W, zq_X, zq_Y, zq_Z, zq_0, zq_1, zq_2, zq_3, zq_4, zq_5, ↓zq_6, ↓zq_7, ↓zq_8, ↓zq_9, ↓zq_aa, zq_ab, zq_ac, zq_ad, zq_ae, zq_af, zq_ag, ↓zq_ah, ↓zq_ai, ↓zq_aj, zq_ak, ↓zq_al, ↓zq_am, e_b1, e_b2, x_o1, x_o2, f5, c1, c1n, c2, c2n, kz]
  · refine ⟨0, ?_, fun h => absurd rfl h, fun h => absurd h.1 c⟩
    have c' : (n : Int) < 1 ∨ 30 < (n : Int) := by omega
    clear lp hK c
    generalize (n : Int) = nn at *
    rcases c' with c1 | c1
    · have c1n : ¬ 1 ≤ nn := by omega
      simp [zq_a, zq_b, zq_c, zq_d, zq_e, zq_f, zq_g, zq_h, zq_i, zq_j, zq_k, zq_l, zq_m, zq_n, zq_o, zq_p, zq_q, zq_r, zq_s, zq_t, zq_u, zq_v, zq_w, zq_x, zq_y, zq_z, zq_A, zq_B, zq_C, zq_D, zq_E, zq_F, zq_G, zq_H, zq_I, zq_J, zq_K, zq_L, ↓zq_M, ↓zq_N, ↓zq_O, ↓zq_P, ↓zq_Q, ↓zq_R, zq_S, zq_T, zq_U, zq_V, zq_W, zq_X, zq_Y, zq_Z, zq_0, zq_1, zq_2, zq_3, zq_4, zq_5, ↓zq_6, ↓zq_7, ↓zq_8, ↓zq_9, ↓zq_aa, zq_ab, zq_ac, zq_ad, zq_ae, zq_af, zq_ag, ↓zq_ah, ↓zq_ai, ↓zq_aj, zq_ak, ↓zq_al, ↓zq_am, e_b1, e_b2, x_o1, x_o2, f5, c1, c1n]
    · have c1n : ¬ nn ≤ 30 := by omega
      have c2 : 1 ≤ nn := by omega
      have c2n : ¬ nn < 1 := by omega
      simp [zq_a, zq_b, zq_c, zq_d, zq_e, zq_f, zq_g, zq_h, zq_i, zq_j, zq_k, zq_l, zq_m, zq_n, zq_o, zq_p, zq_q, zq_r, zq_s, zq_t, zq_u, zq_v, zq_w, zq_x, zq_y, zq_z, zq_A, zq_B, zq_C, zq_D, zq_E, zq_F, zq_G, zq_H, zq_I, zq_J, zq_K, zq_L, ↓zq_M, ↓zq_N, ↓zq_O, ↓zq_P, ↓zq_Q, ↓zq_R, zq_S, zq_T, zq_U, zq_V, zq_W, zq_X, zq_Y, zq_Z, zq_0, zq_1, zq_2, zq_3, zq_4, zq_5, ↓zq_6, ↓zq_7, ↓zq_8, ↓zq_9, ↓zq_aa, zq_ab, zq_ac, zq_ad, zq_ae, zq_af, zq_ag, ↓zq_ah, ↓zq_ai, ↓zq_aj, zq_ak, ↓zq_al, ↓zq_am, e_b1, e_b2, x_o1, x_o2, f5, c1, c1n, c2, c2n]
/-- the i-th washing DAY -/
theorem ws_102 {y : Nat → Nat → Int} {K : EM} {i : Int} (hn : n ≤ 30) (hV : ws_V y n p K 0) : E_C 102 [183, i] K = some (if i < 0 then K 185 0 else if i < K 185 0 then (wh_r (fun u => (K 186 u).toNat) i.toNat (K 186 0).toNat : Int) else -4, K) := by
  have t0 : E_C 146 [185, 0] K = some (K 185 0, K) := w_atN (a := 185) (n := 31) (by decide +kernel) (j := 0) rfl (by decide) K
  have at6 : ∀ (u : Nat) (x : Int), x = u → u ≤ n → E_C 146 [186, x] K = some (((K 186 u).toNat : Int), K) := fun u x hx hu => (w_atN (a := 186) (n := 31) (by decide +kernel) (j := u) hx (by omega) K).trans (by rw [show (186 : Int).toNat = 186 from rfl, ← (hV.2 u (Nat.zero_le _) hu).2.1])
  have lp : ∀ (t d : Nat) (x2 x3 : Int), x2 = d → d ≤ n → 0 ≤ x3 → x3 + t = i → i ≤ 40 → E_V 102 39 [183, i, x2, x3] K = some ((wh_r (fun u => (K 186 u).toNat) t d : Int), K) := by
    intro t
    induction t with
    | zero =>
      intro d x2 x3 h2 hd h3 ht _
      have q : ¬ (x3 < i) := by omega
      show _ = some ((d : Int), K)
      rw [← h2]
      clear hV at6
      rw [E_V_eq]
      show e_tv E_C (E_V 102) e_t102_39 [183, i, x2, x3] K = _
      unfold e_t102_39
      simp [zq_a, zq_b, zq_c, zq_d, zq_e, zq_f, zq_g, zq_h, zq_i, zq_j, zq_k, zq_l, zq_m, zq_n, zq_o, zq_p, zq_q, zq_r, zq_s, zq_t, zq_u, zq_v, zq_w, zq_x, zq_y, zq_z, zq_A, zq_B, zq_C, zq_D, zq_E, zq_F, zq_G, zq_H, zq_I, zq_J, zq_K, zq_L, ↓zq_M, ↓zq_N, ↓zq_O, ↓zq_P, ↓zq_Q, ↓zq_R, zq_S, zq_T, zq_U, zq_V, zq_W, zq_X, zq_Y, zq_Z, zq_0, zq_1, zq_2, zq_3, zq_4, zq_5, ↓zq_6, ↓zq_7, ↓zq_8, ↓zq_9, ↓zq_aa, zq_ab, zq_ac, zq_ad, zq_ae, zq_af, zq_ag, ↓zq_ah, ↓zq_ai, ↓zq_aj, zq_ak, ↓zq_al, ↓zq_am, e_b1, e_b2, x_o1, x_o2, q]
    | succ t ih =>
      intro d x2 x3 h2 hd h3 ht h40
      have q : x3 < i := by omega
      have k := ih (K 186 d).toNat ((K 186 d).toNat : Int) (x3 + 1) rfl (hV.2 d (Nat.zero_le _) hd).2.2 (by omega) (by omega) h40
      have w1 : e_w (x3 + 1) = x3 + 1 := a_w_id (by omega) (by omega)
      have t6 := at6 d x2 h2 hd
      show _ = some ((wh_r (fun u => (K 186 u).toNat) t (K 186 d).toNat : Int), K)
      rw [← k]
      clear k ih hV at6
      generalize ((K 186 d).toNat : Int) = z at *
      rw [E_V_eq]
      show e_tv E_C (E_V 102) e_t102_39 [183, i, x2, x3] K = _
      unfold e_t102_39
      simp [zq_a, zq_b, zq_c, zq_d, zq_e, zq_f, zq_g, zq_h, zq_i, zq_j, zq_k, zq_l, zq_m, zq_n, zq_o, zq_p, zq_q, zq_r, zq_s, zq_t, zq_u, zq_v, zq_w, zq_x, zq_y, zq_z, zq_A, zq_B, zq_C, zq_D, zq_E, zq_F, zq_G, zq_H, zq_I, zq_J, zq_K, zq_L, ↓zq_M, ↓zq_N, ↓zq_O, ↓zq_P, ↓zq_Q, ↓zq_R, zq_S, zq_T, zq_U, zq_V, zq_W, zq_X, zq_Y, zq_Z, zq_0, zq_1, zq_2, zq_3, zq_4, zq_5, ↓zq_6, ↓zq_7, ↓zq_8, ↓zq_9, ↓zq_aa, zq_ab, zq_ac, zq_ad, zq_ae, zq_af, zq_ag, ↓zq_ah, ↓zq_ai, ↓zq_aj, zq_ak, ↓zq_al, ↓zq_am, e_b1, e_b2, x_o1, x_o2, ws_G3, q, t6, w1]
  have wb := (hV.2 0 (Nat.le_refl _) (Nat.zero_le _)).1.2
  have n0 := (hV.2 0 (Nat.le_refl _) (Nat.zero_le _)).2.2
  have t6 := at6 0 0 rfl (Nat.zero_le _)
  rw [r_ent (show e_rok 102 [183, i] = true from ws_r rfl (by decide +kernel))]
  show e_tv E_C (E_V 102) e_t102_0 [183, i, 0, 0] K = _
  unfold e_t102_0
  rcases x_lt i 0 with ⟨c0, c0_n⟩ | ⟨c0, c0_n⟩
  · rw [if_pos c0]
    clear lp at6 hV
    generalize K 185 0 = w at *
    simp [zq_a, zq_b, zq_c, zq_d, zq_e, zq_f, zq_g, zq_h, zq_i, zq_j, zq_k, zq_l, zq_m, zq_n, zq_o, zq_p, zq_q, zq_r, zq_s, zq_t, zq_u, zq_v, zq_w, zq_x, zq_y, zq_z, zq_A, zq_B, zq_C, zq_D, zq_E, zq_F, zq_G, zq_H, zq_I, zq_J, zq_K, zq_L, ↓zq_M, ↓zq_N, ↓zq_O, ↓zq_P, ↓zq_Q, ↓zq_R, zq_S, zq_T, zq_U, zq_V, zq_W, zq_X, zq_Y, zq_Z, zq_0, zq_1, zq_2, zq_3, zq_4, zq_5, ↓zq_6, ↓zq_7, ↓zq_8, ↓zq_9, ↓zq_aa, zq_ab, zq_ac, zq_ad, zq_ae, zq_af, zq_ag, ↓zq_ah, ↓zq_ai, ↓zq_aj, zq_ak, ↓zq_al, ↓zq_am, e_b1, e_b2, x_o1, x_o2, ws_G2, t0, c0, c0_n]
  · rw [if_neg c0]
    rcases x_lt i (K 185 0) with ⟨c1, c1_n⟩ | ⟨c1, c1_n⟩
    · rw [if_pos c1]
      have k := lp i.toNat (K 186 0).toNat ((K 186 0).toNat : Int) 0 rfl n0 (Int.le_refl _) (by omega) (by omega)
      rw [← k]
      clear lp at6 hV k
      generalize K 185 0 = w at *
      generalize ((K 186 0).toNat : Int) = z at *
      simp [zq_a, zq_b, zq_c, zq_d, zq_e, zq_f, zq_g, zq_h, zq_i, zq_j, zq_k, zq_l, zq_m, zq_n, zq_o, zq_p, zq_q, zq_r, zq_s, zq_t, zq_u, zq_v, zq_w, zq_x, zq_y, zq_z, zq_A, zq_B, zq_C, zq_D, zq_E, zq_F, zq_G, zq_H, zq_I, zq_J, zq_K, zq_L, ↓zq_M, ↓zq_N, ↓zq_O, ↓zq_P, ↓zq_Q, ↓zq_R, zq_S, zq_T, zq_U, zq_V, zq_W, zq_X, zq_Y, zq_Z, zq_0, zq_1, zq_2, zq_3, zq_4, zq_5, ↓zq_6, ↓zq_7, ↓zq_8, ↓zq_9, ↓zq_aa, zq_ab, zq_ac, zq_ad, zq_ae, zq_af, zq_ag, ↓zq_ah, ↓zq_ai, ↓zq_aj, zq_ak, ↓zq_al, ↓zq_am, e_b1, e_b2, x_o1, x_o2, ws_G2, ws_G3, t0, t6, c0, c0_n, c1, c1_n]
    · rw [if_neg c1]
      clear lp at6 hV
      generalize K 185 0 = w at *
      simp [zq_a, zq_b, zq_c, zq_d, zq_e, zq_f, zq_g, zq_h, zq_i, zq_j, zq_k, zq_l, zq_m, zq_n, zq_o, zq_p, zq_q, zq_r, zq_s, zq_t, zq_u, zq_v, zq_w, zq_x, zq_y, zq_z, zq_A, zq_B, zq_C, zq_D, zq_E, zq_F, zq_G, zq_H, zq_I, zq_J, zq_K, zq_L, ↓zq_M, ↓zq_N, ↓zq_O, ↓zq_P, ↓zq_Q, ↓zq_R, zq_S, zq_T, zq_U, zq_V, zq_W, zq_X, zq_Y, zq_Z, zq_0, zq_1, zq_2, zq_3, zq_4, zq_5, ↓zq_6, ↓zq_7, ↓zq_8, ↓zq_9, ↓zq_aa, zq_ab, zq_ac, zq_ad, zq_ae, zq_af, zq_ag, ↓zq_ah, ↓zq_ai, ↓zq_aj, zq_ak, ↓zq_al, ↓zq_am, e_b1, e_b2, x_o1, x_o2, ws_G2, t0, c0, c0_n, c1, c1_n]
end WSP
end
section
/-! washing days by the reference: exactly -/
section FW
variable {K : EM} {n mN : Nat} {mI r p : Int} {G : Nat → Int}
def fw_f (mN n : Nat) (r p : Int) (G : Nat → Int) (K : EM) : Prop := K 192 33 = r ∧ K 192 34 = p ∧ K 192 35 = 120 * (mN : Int) ∧ K 197 mN = n ∧ ∀ k, k < n → K 198 (120 * mN + k) = G k
theorem fw_f_cg {K' : EM} (h : fw_f mN n r p G K) (f : ∀ id k, id ≠ 207 → id ≠ 208 → K' id k = K id k) : fw_f mN n r p G K' := by
  obtain ⟨h1, h2, h3, h4, h5⟩ := h
  exact ⟨(f _ _ (by decide) (by decide)).trans h1, (f _ _ (by decide) (by decide)).trans h2, (f _ _ (by decide) (by decide)).trans h3, (f _ _ (by decide) (by decide)).trans h4, fun k hk => (f _ _ (by decide) (by decide)).trans (h5 k hk)⟩
theorem fw_233 (h : fw_f mN n r p G K) (m8 : mN < 8) (hn : n ≤ 30) (hr : 0 ≤ r ∧ r ≤ 20) (hG : ∀ k, k < n → 0 ≤ G k ∧ G k ≤ 999) {k s : Nat} {kI sI : Int} (hk : kI = k) (hs : sI = s) (kn : k < n) (s30 : s ≤ 31) : E_C 233 [192, kI, sI] K = some (wh_y G r k s, K) := by
  obtain ⟨h33, -, h35, -, h5⟩ := h
  obtain ⟨⟨z0, z1⟩, d1, d2⟩ := wh_d (s := s) hr (by omega)
  have gq := hG k kn
  obtain ⟨⟨q0, q1⟩, q2, q3⟩ := wh_q gq ⟨d1, d2⟩
  unfold wh_y
  rw [← hs] at z0 z1 d1 d2 q0 q1 q2 q3 ⊢
  have le : e_op 60 [198, 120 * (mN : Int) + kI] K = some (G k) := (r_rdE (by omega) (by omega)).trans (congrArg some (by rw [show (120 * (mN : Int) + kI).toNat = 120 * mN + k by omega, h5 k kn]))
  have w1 : e_w (120 * (mN : Int) + kI) = 120 * (mN : Int) + kI := a_w_id (by omega) (by omega)
  have w2 : e_w (r * sI) = r * sI := a_w_id (by omega) (by omega)
  have kl := r_lesser (a := 50) (b := r * sI) (M := K)
  generalize (if 50 < r * sI then (50 : Int) else r * sI) = d8 at *
  have w3 : e_w (100 - d8) = 100 - d8 := a_w_id (by omega) (by omega)
  have w4 : e_w (G k * (100 - d8)) = G k * (100 - d8) := a_w_id (by omega) (by omega)
  have w5 : e_w ((G k * (100 - d8)).tdiv 100) = (G k * (100 - d8)).tdiv 100 := a_w_id (by omega) (by omega)
  clear h5 hG gq
  generalize G k = gk at *
  generalize 120 * (mN : Int) = b35 at *
  rw [r_ent (show e_rok 233 [192, kI, sI] = true from decide_eq_true r_ref)]
  show e_tv E_C (E_V 233) e_t233_0 [192, kI, sI] K = _
  unfold e_t233_0
  simp [zq_a, zq_b, zq_c, zq_d, zq_e, zq_f, zq_g, zq_h, zq_i, zq_j, zq_k, zq_l, zq_m, zq_n, zq_o, zq_p, zq_q, zq_r, zq_s, zq_t, zq_u, zq_v, zq_w, zq_x, zq_y, zq_z, zq_A, zq_B, zq_C, zq_D, zq_E, zq_F, zq_G, zq_H, zq_I, zq_J, zq_K, zq_L, ↓zq_M, ↓zq_N, ↓zq_O, ↓zq_P, ↓zq_Q, ↓zq_R, zq_S, zq_T, zq_U, zq_V, zq_W, zq_X, zq_Y, zq_Z, zq_0, zq_1, zq_2, zq_3, zq_4, zq_5, ↓zq_6, ↓zq_7, ↓zq_8, ↓zq_9, ↓zq_aa, zq_ab, zq_ac, zq_ad, zq_ae, zq_af, zq_ag, ↓zq_ah, ↓zq_ai, ↓zq_aj, zq_ak, ↓zq_al, ↓zq_am, e_b1, e_b2, x_o1, x_o2, r_O5, r_F33, r_F35, h33, h35, w1, w2, w3, w4, w5, le, kl]
/-- rows k .. of the reference's plan -/
def fw_V (y : Nat → Nat → Int) (n : Nat) (p : Int) (K : EM) (k : Nat) : Prop := (∀ s, s < 32 → K 207 (32 * n + s) = 0 ∧ K 208 (32 * n + s) = 0) ∧ (∀ k' s, k ≤ k' → k' < n → s ≤ k' → (wh_P y p (fun k s => K 207 (32 * k + s)) (fun k s => K 208 (32 * k + s)) k' s → K 207 (32 * k' + s) = y k' 0 - p + K 207 (32 * (k' + 1) + 1) ∧ K 208 (32 * k' + s) = K 208 (32 * (k' + 1) + 1) + 1) ∧ (¬ wh_P y p (fun k s => K 207 (32 * k + s)) (fun k s => K 208 (32 * k + s)) k' s → K 207 (32 * k' + s) = y k' s + K 207 (32 * (k' + 1) + (s + 1)) ∧ K 208 (32 * k' + s) = K 208 (32 * (k' + 1) + (s + 1)))) ∧ ∀ k' s, k ≤ k' → k' ≤ n → s ≤ k' → (-9999 * ((n : Int) - (k' : Int)) ≤ K 207 (32 * k' + s) ∧ K 207 (32 * k' + s) ≤ 999 * ((n : Int) - (k' : Int))) ∧ 0 ≤ K 208 (32 * k' + s) ∧ K 208 (32 * k' + s) ≤ (n : Int) - (k' : Int)
/-- rows k .. alone matter -/
theorem fw_V_cg {y : Nat → Nat → Int} {K K' : EM} {k : Nat} (hn : n ≤ 30) (kn : k ≤ n) (h : fw_V y n p K k) (f : ∀ k' s, k ≤ k' → k' ≤ n → s < 32 → K' 207 (32 * k' + s) = K 207 (32 * k' + s) ∧ K' 208 (32 * k' + s) = K 208 (32 * k' + s)) : fw_V y n p K' k := by
  obtain ⟨h1, h2, h3⟩ := h
  refine ⟨fun s hs => ?_, fun k' s a1 a2 a3 => ?_, fun k' s a1 a2 a3 => ?_⟩
  · rw [(f n s kn (Nat.le_refl _) hs).1, (f n s kn (Nat.le_refl _) hs).2]
    exact h1 s hs
  · have eP : wh_P y p (fun k s => K' 207 (32 * k + s)) (fun k s => K' 208 (32 * k + s)) k' s ↔ wh_P y p (fun k s => K 207 (32 * k + s)) (fun k s => K 208 (32 * k + s)) k' s := by
      show (y k' s + K' 207 (32 * (k' + 1) + (s + 1)) < y k' 0 - p + K' 207 (32 * (k' + 1) + 1) ∨ (y k' 0 - p + K' 207 (32 * (k' + 1) + 1) = y k' s + K' 207 (32 * (k' + 1) + (s + 1)) ∧ K' 208 (32 * (k' + 1) + 1) + 1 < K' 208 (32 * (k' + 1) + (s + 1)))) ↔ _
      rw [(f (k' + 1) (s + 1) (by omega) (by omega) (by omega)).1, (f (k' + 1) (s + 1) (by omega) (by omega) (by omega)).2, (f (k' + 1) 1 (by omega) (by omega) (by omega)).1, (f (k' + 1) 1 (by omega) (by omega) (by omega)).2]
      exact Iff.rfl
    rw [eP, (f (k' + 1) (s + 1) (by omega) (by omega) (by omega)).1, (f (k' + 1) (s + 1) (by omega) (by omega) (by omega)).2, (f (k' + 1) 1 (by omega) (by omega) (by omega)).1, (f (k' + 1) 1 (by omega) (by omega) (by omega)).2, (f k' s a1 (by omega) (by omega)).1, (f k' s a1 (by omega) (by omega)).2]
    exact h2 k' s a1 a2 a3
  · rw [(f k' s a1 a2 (by omega)).1, (f k' s a1 a2 (by omega)).2]
    exact h3 k' s a1 a2 a3
theorem fw_234s {k s x y w a b m1 m2 t1 t2 k1 k2 k3 i1 i2 : Int} (wk : e_w (k + 1) = k1) (w32 : e_w (32 * k1) = k2) (ws : e_w (k2 + s) = k3) (wi : e_w (k3 + 1) = i1) (wj : e_w (k2 + 1) = i2) (ka : E_C 233 [192, k, s] K = some (a, K)) (kb : E_C 233 [192, k, 0] K = some (b, K)) (l1 : e_op 60 [207, i1] K = some m1) (l2 : e_op 60 [207, i2] K = some m2) (l3 : e_op 60 [208, i1] K = some t1) (l4 : e_op 60 [208, i2] K = some t2) (h34 : K 192 34 = p) (wx : e_w (a + m1) = x) (wb : e_w (b - p) = w) (wy : e_w (w + m2) = y) {tz : Int} (wt : e_w (t2 + 1) = tz) : E_C 234 [192, k, s] K = some (if x < y ∨ (y = x ∧ tz < t1) then 1 else 0, K) := by
  rcases x_le y x with ⟨c1, c1_n⟩ | ⟨c1, c1_n⟩
  · by_cases c2 : y = x
    · rcases x_lt tz t1 with ⟨c3, c3_n⟩ | ⟨c3, c3_n⟩
      · rw [if_pos (Or.inr ⟨c2, c3⟩)]
        subst c2
        rw [r_ent (show e_rok 234 [192, k, s] = true from decide_eq_true r_ref)]
        show e_tv E_C (E_V 234) e_t234_0 [192, k, s, 0, 0] K = _
        unfold e_t234_0
        simp [zq_a, zq_b, zq_c, zq_d, zq_e, zq_f, zq_g, zq_h, zq_i, zq_j, zq_k, zq_l, zq_m, zq_n, zq_o, zq_p, zq_q, zq_r, zq_s, zq_t, zq_u, zq_v, zq_w, zq_x, zq_y, zq_z, zq_A, zq_B, zq_C, zq_D, zq_E, zq_F, zq_G, zq_H, zq_I, zq_J, zq_K, zq_L, ↓zq_M, ↓zq_N, ↓zq_O, ↓zq_P, ↓zq_Q, ↓zq_R, zq_S, zq_T, zq_U, zq_V, zq_W, zq_X, zq_Y, zq_Z, zq_0, zq_1, zq_2, zq_3, zq_4, zq_5, ↓zq_6, ↓zq_7, ↓zq_8, ↓zq_9, ↓zq_aa, zq_ab, zq_ac, zq_ad, zq_ae, zq_af, zq_ag, ↓zq_ah, ↓zq_ai, ↓zq_aj, zq_ak, ↓zq_al, ↓zq_am, e_b1, e_b2, x_o1, x_o2, r_O31, r_O32, r_F34, wk, w32, ws, wi, wj, ka, kb, l1, l2, l3, l4, h34, wx, wb, wy, wt, c3, c3_n]
      · rw [if_neg (by omega)]
        subst c2
        rw [r_ent (show e_rok 234 [192, k, s] = true from decide_eq_true r_ref)]
        show e_tv E_C (E_V 234) e_t234_0 [192, k, s, 0, 0] K = _
        unfold e_t234_0
        simp [zq_a, zq_b, zq_c, zq_d, zq_e, zq_f, zq_g, zq_h, zq_i, zq_j, zq_k, zq_l, zq_m, zq_n, zq_o, zq_p, zq_q, zq_r, zq_s, zq_t, zq_u, zq_v, zq_w, zq_x, zq_y, zq_z, zq_A, zq_B, zq_C, zq_D, zq_E, zq_F, zq_G, zq_H, zq_I, zq_J, zq_K, zq_L, ↓zq_M, ↓zq_N, ↓zq_O, ↓zq_P, ↓zq_Q, ↓zq_R, zq_S, zq_T, zq_U, zq_V, zq_W, zq_X, zq_Y, zq_Z, zq_0, zq_1, zq_2, zq_3, zq_4, zq_5, ↓zq_6, ↓zq_7, ↓zq_8, ↓zq_9, ↓zq_aa, zq_ab, zq_ac, zq_ad, zq_ae, zq_af, zq_ag, ↓zq_ah, ↓zq_ai, ↓zq_aj, zq_ak, ↓zq_al, ↓zq_am, e_b1, e_b2, x_o1, x_o2, r_O31, r_O32, r_F34, wk, w32, ws, wi, wj, ka, kb, l1, l2, l3, l4, h34, wx, wb, wy, wt, c3, c3_n]
    · rw [if_neg (by omega)]
      rw [r_ent (show e_rok 234 [192, k, s] = true from decide_eq_true r_ref)]
      show e_tv E_C (E_V 234) e_t234_0 [192, k, s, 0, 0] K = _
      unfold e_t234_0
      simp [zq_a, zq_b, zq_c, zq_d, zq_e, zq_f, zq_g, zq_h, zq_i, zq_j, zq_k, zq_l, zq_m, zq_n, zq_o, zq_p, zq_q, zq_r, zq_s, zq_t, zq_u, zq_v, zq_w, zq_x, zq_y, zq_z, zq_A, zq_B, zq_C, zq_D, zq_E, zq_F, zq_G, zq_H, zq_I, zq_J, zq_K, zq_L, ↓zq_M, ↓zq_N, ↓zq_O, ↓zq_P, ↓zq_Q, ↓zq_R, zq_S, zq_T, zq_U, zq_V, zq_W, zq_X, zq_Y, zq_Z, zq_0, zq_1, zq_2, zq_3, zq_4, zq_5, ↓zq_6, ↓zq_7, ↓zq_8, ↓zq_9, ↓zq_aa, zq_ab, zq_ac, zq_ad, zq_ae, zq_af, zq_ag, ↓zq_ah, ↓zq_ai, ↓zq_aj, zq_ak, ↓zq_al, ↓zq_am, e_b1, e_b2, x_o1, x_o2, r_O31, r_O32, r_F34, wk, w32, ws, wi, wj, ka, kb, l1, l2, l3, l4, h34, wx, wb, wy, wt, c1, c1_n, c2]
  · rw [if_pos (by omega)]
    rw [r_ent (show e_rok 234 [192, k, s] = true from decide_eq_true r_ref)]
    show e_tv E_C (E_V 234) e_t234_0 [192, k, s, 0, 0] K = _
    unfold e_t234_0
    simp [zq_a, zq_b, zq_c, zq_d, zq_e, zq_f, zq_g, zq_h, zq_i, zq_j, zq_k, zq_l, zq_m, zq_n, zq_o, zq_p, zq_q, zq_r, zq_s, zq_t, zq_u, zq_v, zq_w, zq_x, zq_y, zq_z, zq_A, zq_B, zq_C, zq_D, zq_E, zq_F, zq_G, zq_H, zq_I, zq_J, zq_K, zq_L, ↓zq_M, ↓zq_N, ↓zq_O, ↓zq_P, ↓zq_Q, ↓zq_R, zq_S, zq_T, zq_U, zq_V, zq_W, zq_X, zq_Y, zq_Z, zq_0, zq_1, zq_2, zq_3, zq_4, zq_5, ↓zq_6, ↓zq_7, ↓zq_8, ↓zq_9, ↓zq_aa, zq_ab, zq_ac, zq_ad, zq_ae, zq_af, zq_ag, ↓zq_ah, ↓zq_ai, ↓zq_aj, zq_ak, ↓zq_al, ↓zq_am, e_b1, e_b2, x_o1, x_o2, r_O31, r_O32, r_F34, wk, w32, ws, wi, wj, ka, kb, l1, l2, l3, l4, h34, wx, wb, wy, wt, c1, c1_n]
/-- whether it pays -/
theorem fw_234 (h : fw_f mN n r p G K) (m8 : mN < 8) (hn : n ≤ 30) (hr : 0 ≤ r ∧ r ≤ 20) (hp : 0 ≤ p ∧ p ≤ 9999) (hG : ∀ k, k < n → 0 ≤ G k ∧ G k ≤ 999) {k s : Nat} {kI sI : Int} (hk : kI = k) (hs : sI = s) (kn : k < n) (sk : s ≤ k) (b1 : (-299970 ≤ K 207 (32 * (k + 1) + (s + 1)) ∧ K 207 (32 * (k + 1) + (s + 1)) ≤ 299970) ∧ 0 ≤ K 208 (32 * (k + 1) + (s + 1)) ∧ K 208 (32 * (k + 1) + (s + 1)) ≤ 30) (b2 : (-299970 ≤ K 207 (32 * (k + 1) + 1) ∧ K 207 (32 * (k + 1) + 1) ≤ 299970) ∧ 0 ≤ K 208 (32 * (k + 1) + 1) ∧ K 208 (32 * (k + 1) + 1) ≤ 30) : ∃ z, E_C 234 [192, kI, sI] K = some (z, K) ∧ ((z = 1 ∧ wh_P (wh_y G r) p (fun k s => K 207 (32 * k + s)) (fun k s => K 208 (32 * k + s)) k s) ∨ (z = 0 ∧ ¬ wh_P (wh_y G r) p (fun k s => K 207 (32 * k + s)) (fun k s => K 208 (32 * k + s)) k s)) := by
  have ka := fw_233 h m8 hn hr hG hk hs kn (by omega)
  have kb := fw_233 h m8 hn hr hG hk (show (0 : Int) = ((0 : Nat) : Int) from rfl) kn (by omega)
  have ya := wh_yb (r := r) (s := s) (hG k kn) hr (by omega)
  have yb := wh_yb (r := r) (s := 0) (hG k kn) hr (by omega)
  have l1 : e_op 60 [207, 32 * (kI + 1) + sI + 1] K = some (K 207 (32 * (k + 1) + (s + 1))) := (r_rdA (a := 207) (n := 1023) (by decide) (by decide) (by decide +kernel) (by omega) (by omega)).trans (by rw [show (32 * (kI + 1) + sI + 1).toNat = 32 * (k + 1) + (s + 1) by omega]; rfl)
  have l2 : e_op 60 [207, 32 * (kI + 1) + 1] K = some (K 207 (32 * (k + 1) + 1)) := (r_rdA (a := 207) (n := 1023) (by decide) (by decide) (by decide +kernel) (by omega) (by omega)).trans (by rw [show (32 * (kI + 1) + 1).toNat = 32 * (k + 1) + 1 by omega]; rfl)
  have l3 : e_op 60 [208, 32 * (kI + 1) + sI + 1] K = some (K 208 (32 * (k + 1) + (s + 1))) := (r_rdA (a := 208) (n := 1023) (by decide) (by decide) (by decide +kernel) (by omega) (by omega)).trans (by rw [show (32 * (kI + 1) + sI + 1).toNat = 32 * (k + 1) + (s + 1) by omega]; rfl)
  have l4 : e_op 60 [208, 32 * (kI + 1) + 1] K = some (K 208 (32 * (k + 1) + 1)) := (r_rdA (a := 208) (n := 1023) (by decide) (by decide) (by decide +kernel) (by omega) (by omega)).trans (by rw [show (32 * (kI + 1) + 1).toNat = 32 * (k + 1) + 1 by omega]; rfl)
  have kk := fw_234s (k := kI) (s := sI) (a_w_id (by omega) (by omega)) (a_w_id (by omega) (by omega)) (a_w_id (by omega) (by omega)) (a_w_id (by omega) (by omega)) (a_w_id (by omega) (by omega)) ka kb l1 l2 l3 l4 h.2.1 (a_w_id (by omega) (by omega)) (a_w_id (by omega) (by omega)) (a_w_id (by omega) (by omega)) (a_w_id (by omega) (by omega))
  rcases Classical.em (wh_y G r k s + K 207 (32 * (k + 1) + (s + 1)) < wh_y G r k 0 - p + K 207 (32 * (k + 1) + 1) ∨ wh_y G r k 0 - p + K 207 (32 * (k + 1) + 1) = wh_y G r k s + K 207 (32 * (k + 1) + (s + 1)) ∧ K 208 (32 * (k + 1) + 1) + 1 < K 208 (32 * (k + 1) + (s + 1))) with P | P
  · rw [if_pos P] at kk
    exact ⟨1, kk, Or.inl ⟨rfl, P⟩⟩
  · rw [if_neg P] at kk
    exact ⟨0, kk, Or.inr ⟨rfl, P⟩⟩
end FW
end
