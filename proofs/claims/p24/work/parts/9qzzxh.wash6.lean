/-! washing days by the reference: the loops -/
theorem fw_90a {d t x3 x4 x5 x6 k1 k2 i2 k4 ia g gp m tt v1 v2 p s1 : Int} {na : Nat} {M : EM} (q : x4 ≤ x3) (ks : E_C 234 [192, x3, x4] M = some (1, M)) (kg : E_C 233 [192, x3, 0] M = some (g, M)) (h34 : M 192 34 = p) (w1 : e_w (x3 + 1) = k1) (w2 : e_w (32 * k1) = k2) (w3 : e_w (k2 + 1) = i2) (w4 : e_w (32 * x3) = k4) (w5 : e_w (k4 + x4) = ia) (wa : e_w (g - p) = gp) (l1 : e_op 60 [207, i2] M = some m) (wb : e_w (gp + m) = v1) (l2 : e_op 60 [208, i2] (e_up M 207 na v1) = some tt) (wc : e_w (tt + 1) = v2) (wd : e_w (x4 + 1) = s1) (st : e_st 100 [207, ia, v1] M = some (e_up M 207 na v1)) (st2 : e_st 100 [208, ia, v2] (e_up M 207 na v1) = some (e_up (e_up M 207 na v1) 208 na v2)) : E_V 235 90 [192, d, t, x3, x4, x5, x6] M = E_V 235 90 [192, d, t, x3, s1, 1, i2] (e_up (e_up M 207 na v1) 208 na v2) := by
  rw [E_V_eq]
  show e_tv E_C (E_V 235) e_t235_90 [192, d, t, x3, x4, x5, x6] M = _
  unfold e_t235_90
  simp [zq_a, zq_b, zq_c, zq_d, zq_e, zq_f, zq_g, zq_h, zq_i, zq_j, zq_k, zq_l, zq_m, zq_n, zq_o, zq_p, zq_q, zq_r, zq_s, zq_t, zq_u, zq_v, zq_w, zq_x, zq_y, zq_z, zq_A, zq_B, zq_C, zq_D, zq_E, zq_F, zq_G, zq_H, zq_I, zq_J, zq_K, zq_L, ↓zq_M, ↓zq_N, ↓zq_O, ↓zq_P, ↓zq_Q, ↓zq_R, zq_S, zq_T, zq_U, zq_V, zq_W, zq_X, zq_Y, zq_Z, zq_0, zq_1, zq_2, zq_3, zq_4, zq_5, ↓zq_6, ↓zq_7, ↓zq_8, ↓zq_9, ↓zq_aa, zq_ab, zq_ac, zq_ad, zq_ae, zq_af, zq_ag, ↓zq_ah, ↓zq_ai, ↓zq_aj, zq_ak, ↓zq_al, ↓zq_am, e_b1, e_b2, x_o1, x_o2, r_O31, r_O32, r_F34, q, ks, kg, h34, w1, w2, w3, w4, w5, wa, l1, wb, l2, wc, wd, st, st2]
theorem fw_90b {d t x3 x4 x5 x6 k1 k2 i1 k4 ia g m tt v1 s1 : Int} {na : Nat} {M : EM} (q : x4 ≤ x3) (ks : E_C 234 [192, x3, x4] M = some (0, M)) (kg : E_C 233 [192, x3, x4] M = some (g, M)) (w1 : e_w (x3 + 1) = k1) (w2 : e_w (32 * k1) = k2) (wd : e_w (x4 + 1) = s1) (w3 : e_w (k2 + s1) = i1) (w4 : e_w (32 * x3) = k4) (w5 : e_w (k4 + x4) = ia) (wa : e_w g = g) (l1 : e_op 60 [207, i1] M = some m) (wb : e_w (g + m) = v1) (l2 : e_op 60 [208, i1] (e_up M 207 na v1) = some tt) (wc : e_w tt = tt) (st : e_st 100 [207, ia, v1] M = some (e_up M 207 na v1)) (st2 : e_st 100 [208, ia, tt] (e_up M 207 na v1) = some (e_up (e_up M 207 na v1) 208 na tt)) : E_V 235 90 [192, d, t, x3, x4, x5, x6] M = E_V 235 90 [192, d, t, x3, s1, 0, i1] (e_up (e_up M 207 na v1) 208 na tt) := by
  rw [E_V_eq]
  show e_tv E_C (E_V 235) e_t235_90 [192, d, t, x3, x4, x5, x6] M = _
  unfold e_t235_90
  simp [zq_a, zq_b, zq_c, zq_d, zq_e, zq_f, zq_g, zq_h, zq_i, zq_j, zq_k, zq_l, zq_m, zq_n, zq_o, zq_p, zq_q, zq_r, zq_s, zq_t, zq_u, zq_v, zq_w, zq_x, zq_y, zq_z, zq_A, zq_B, zq_C, zq_D, zq_E, zq_F, zq_G, zq_H, zq_I, zq_J, zq_K, zq_L, ↓zq_M, ↓zq_N, ↓zq_O, ↓zq_P, ↓zq_Q, ↓zq_R, zq_S, zq_T, zq_U, zq_V, zq_W, zq_X, zq_Y, zq_Z, zq_0, zq_1, zq_2, zq_3, zq_4, zq_5, ↓zq_6, ↓zq_7, ↓zq_8, ↓zq_9, ↓zq_aa, zq_ab, zq_ac, zq_ad, zq_ae, zq_af, zq_ag, ↓zq_ah, ↓zq_ai, ↓zq_aj, zq_ak, ↓zq_al, ↓zq_am, e_b1, e_b2, x_o1, x_o2, r_O31, r_O32, r_F34, q, ks, kg, w1, w2, w3, w4, w5, wa, l1, wb, l2, wc, wd, st, st2]
section FX
variable {K : EM} {n mN : Nat} {mI r p : Int} {G : Nat → Int}
/-- one cell of the reference's plan -/
def fw_c (y : Nat → Nat → Int) (n : Nat) (p : Int) (K : EM) (k s : Nat) : Prop := ((wh_P y p (fun k s => K 207 (32 * k + s)) (fun k s => K 208 (32 * k + s)) k s → K 207 (32 * k + s) = y k 0 - p + K 207 (32 * (k + 1) + 1) ∧ K 208 (32 * k + s) = K 208 (32 * (k + 1) + 1) + 1) ∧ (¬ wh_P y p (fun k s => K 207 (32 * k + s)) (fun k s => K 208 (32 * k + s)) k s → K 207 (32 * k + s) = y k s + K 207 (32 * (k + 1) + (s + 1)) ∧ K 208 (32 * k + s) = K 208 (32 * (k + 1) + (s + 1)))) ∧ (-9999 * ((n : Int) - (k : Int)) ≤ K 207 (32 * k + s) ∧ K 207 (32 * k + s) ≤ 999 * ((n : Int) - (k : Int))) ∧ 0 ≤ K 208 (32 * k + s) ∧ K 208 (32 * k + s) ≤ (n : Int) - (k : Int)
theorem fw_c_cg {y : Nat → Nat → Int} {K' : EM} {k s : Nat} (h : fw_c y n p K k s) (f : ∀ j, j = 32 * k + s ∨ 32 * (k + 1) ≤ j → K' 207 j = K 207 j ∧ K' 208 j = K 208 j) : fw_c y n p K' k s := by
  obtain ⟨h1, h2⟩ := h
  have a := f (32 * k + s) (Or.inl rfl)
  have b := f (32 * (k + 1) + (s + 1)) (Or.inr (by omega))
  have c := f (32 * (k + 1) + 1) (Or.inr (by omega))
  have eP : wh_P y p (fun k s => K' 207 (32 * k + s)) (fun k s => K' 208 (32 * k + s)) k s ↔ wh_P y p (fun k s => K 207 (32 * k + s)) (fun k s => K 208 (32 * k + s)) k s := by
    show (y k s + K' 207 (32 * (k + 1) + (s + 1)) < y k 0 - p + K' 207 (32 * (k + 1) + 1) ∨ (y k 0 - p + K' 207 (32 * (k + 1) + 1) = y k s + K' 207 (32 * (k + 1) + (s + 1)) ∧ K' 208 (32 * (k + 1) + 1) + 1 < K' 208 (32 * (k + 1) + (s + 1)))) ↔ _
    rw [b.1, b.2, c.1, c.2]
    exact Iff.rfl
  unfold fw_c
  rw [eP, a.1, a.2, b.1, b.2, c.1, c.2]
  exact ⟨h1, h2⟩
theorem fw_90 (h : fw_f mN n r p G K) (m8 : mN < 8) (hn : n ≤ 30) (hr : 0 ≤ r ∧ r ≤ 20) (hp : 0 ≤ p ∧ p ≤ 9999) (hG : ∀ k, k < n → 0 ≤ G k ∧ G k ≤ 999) {k : Nat} {t3 : Int} (kn : k < n) (hV : fw_V (wh_y G r) n p K (k + 1)) {mI x3 : Int} (h3 : x3 = k) : ∀ (t s : Nat) (x4 x5 x6 : Int) (J : EM), x4 = s → s + t = k + 1 → (∀ id j, ¬ ((id = 207 ∨ id = 208) ∧ 32 * k ≤ j ∧ j < 32 * k + 32) → J id j = K id j) → (∀ s', s' < s → fw_c (wh_y G r) n p J k s') → ∃ J' y4 y5 y6, E_V 235 90 [192, mI, t3, x3, x4, x5, x6] J = E_V 235 83 [192, mI, t3, x3 - 1, y4, y5, y6] J' ∧ (∀ id j, ¬ ((id = 207 ∨ id = 208) ∧ 32 * k ≤ j ∧ j < 32 * k + 32) → J' id j = K id j) ∧ ∀ s', s' ≤ k → fw_c (wh_y G r) n p J' k s' := by
  intro t
  induction t with
  | zero =>
    intro s x4 x5 x6 J h4 hs hf hc
    refine ⟨J, x4, x5, x6, ?_, hf, fun s' hs' => hc s' (by omega)⟩
    have q : ¬ (x4 ≤ x3) := by omega
    have qn : x3 < x4 := by omega
    have w0 : e_w (x3 + -1) = x3 - 1 := a_w_id (by omega) (by omega)
    clear hc hf hV hG h
    rw [E_V_eq]
    show e_tv E_C (E_V 235) e_t235_90 [192, mI, t3, x3, x4, x5, x6] J = _
    unfold e_t235_90
    simp [zq_a, zq_b, zq_c, zq_d, zq_e, zq_f, zq_g, zq_h, zq_i, zq_j, zq_k, zq_l, zq_m, zq_n, zq_o, zq_p, zq_q, zq_r, zq_s, zq_t, zq_u, zq_v, zq_w, zq_x, zq_y, zq_z, zq_A, zq_B, zq_C, zq_D, zq_E, zq_F, zq_G, zq_H, zq_I, zq_J, zq_K, zq_L, ↓zq_M, ↓zq_N, ↓zq_O, ↓zq_P, ↓zq_Q, ↓zq_R, zq_S, zq_T, zq_U, zq_V, zq_W, zq_X, zq_Y, zq_Z, zq_0, zq_1, zq_2, zq_3, zq_4, zq_5, ↓zq_6, ↓zq_7, ↓zq_8, ↓zq_9, ↓zq_aa, zq_ab, zq_ac, zq_ad, zq_ae, zq_af, zq_ag, ↓zq_ah, ↓zq_ai, ↓zq_aj, zq_ak, ↓zq_al, ↓zq_am, e_b1, e_b2, x_o1, x_o2, q, qn, w0]
  | succ t ih =>
    intro s x4 x5 x6 J h4 hs hf hc
    have fJ : fw_f mN n r p G J := fw_f_cg h (fun id j i1 i2 => hf id j (by omega))
    have rb := fun s' (hs' : s' ≤ k + 1) => hV.2.2 (k + 1) s' (Nat.le_refl _) (by omega) hs'
    have e1 : ∀ id s', id = 207 ∨ id = 208 → J id (32 * (k + 1) + s') = K id (32 * (k + 1) + s') := fun id s' hid => hf _ _ (by omega)
    have b1 := rb (s + 1) (by omega)
    have b2 := rb 1 (by omega)
    rw [← e1 207 (s + 1) (Or.inl rfl), ← e1 208 (s + 1) (Or.inr rfl)] at b1
    rw [← e1 207 1 (Or.inl rfl), ← e1 208 1 (Or.inr rfl)] at b2
    obtain ⟨z, kz, hz⟩ := fw_234 fJ m8 hn hr hp hG h3 h4 kn (by omega) (by omega) (by omega)
    have ya := wh_yb (r := r) (s := s) (hG k kn) hr (by omega)
    have yb := wh_yb (r := r) (s := 0) (hG k kn) hr (by omega)
    have q : x4 ≤ x3 := by omega
    have w1 : e_w (x3 + 1) = x3 + 1 := a_w_id (by omega) (by omega)
    have w2 : e_w (32 * (x3 + 1)) = 32 * (x3 + 1) := a_w_id (by omega) (by omega)
    have w4 : e_w (32 * x3) = 32 * x3 := a_w_id (by omega) (by omega)
    have w5 : e_w (32 * x3 + x4) = 32 * x3 + x4 := a_w_id (by omega) (by omega)
    have wd : e_w (x4 + 1) = x4 + 1 := a_w_id (by omega) (by omega)
    have ea : (32 * x3 + x4).toNat = 32 * k + s := by omega
    have st : ∀ v M, e_st 100 [207, 32 * x3 + x4, v] M = some (e_up M 207 (32 * k + s) v) := fun v M => (r_stA (a := 207) (n := 1023) (by decide) (by decide) (by decide +kernel) (by omega) (by omega)).trans (by rw [ea]; rfl)
    have st2 : ∀ v M, e_st 100 [208, 32 * x3 + x4, v] M = some (e_up M 208 (32 * k + s) v) := fun v M => (r_stA (a := 208) (n := 1023) (by decide) (by decide) (by decide +kernel) (by omega) (by omega)).trans (by rw [ea]; rfl)
    have ld : ∀ (j : Int) (jN : Nat) M, j = jN → jN ≤ 1023 → e_op 60 [207, j] M = some (M 207 jN) := fun j jN M hj h9 => (r_rdA (a := 207) (n := 1023) (by decide) (by decide) (by decide +kernel) (by omega) (by omega)).trans (by rw [show j.toNat = jN by omega]; rfl)
    have ld2 : ∀ (j : Int) (jN : Nat) M, j = jN → jN ≤ 1023 → e_op 60 [208, j] M = some (M 208 jN) := fun j jN M hj h9 => (r_rdA (a := 208) (n := 1023) (by decide) (by decide) (by decide +kernel) (by omega) (by omega)).trans (by rw [show j.toNat = jN by omega]; rfl)
    have fin : ∀ v1 v2 y5 y6, E_V 235 90 [192, mI, t3, x3, x4, x5, x6] J = E_V 235 90 [192, mI, t3, x3, x4 + 1, y5, y6] (e_up (e_up J 207 (32 * k + s) v1) 208 (32 * k + s) v2) → fw_c (wh_y G r) n p (e_up (e_up J 207 (32 * k + s) v1) 208 (32 * k + s) v2) k s → ∃ J' y4 y5 y6, E_V 235 90 [192, mI, t3, x3, x4, x5, x6] J = E_V 235 83 [192, mI, t3, x3 - 1, y4, y5, y6] J' ∧ (∀ id j, ¬ ((id = 207 ∨ id = 208) ∧ 32 * k ≤ j ∧ j < 32 * k + 32) → J' id j = K id j) ∧ ∀ s', s' ≤ k → fw_c (wh_y G r) n p J' k s' := fun v1 v2 y5 y6 hk hcs => by
      obtain ⟨J', u4, u5, u6, k1, k2, k3⟩ := ih (s + 1) (x4 + 1) y5 y6 (e_up (e_up J 207 (32 * k + s) v1) 208 (32 * k + s) v2) (by omega) (by omega) (fun id j hh => by
        rw [c_up_n (by omega), c_up_n (by omega)]
        exact hf id j hh) (fun s' hs' => by
        by_cases e : s' = s
        · subst e; exact hcs
        · exact fw_c_cg (hc s' (by omega)) (fun j hj => by
            rw [c_up_n (by omega), c_up_n (by omega), c_up_n (by omega), c_up_n (by omega)]
            exact ⟨rfl, rfl⟩))
      exact ⟨J', u4, u5, u6, hk.trans k1, k2, k3⟩
    -- whether it pays is the same behind the writing
    have eN : ∀ v1 v2 (id s' : Nat), e_up (e_up J 207 (32 * k + s) v1) 208 (32 * k + s) v2 id (32 * (k + 1) + s') = J id (32 * (k + 1) + s') := fun v1 v2 id s' => by
      rw [c_up_n (by omega), c_up_n (by omega)]
    have eS1 : ∀ v1 v2, e_up (e_up J 207 (32 * k + s) v1) 208 (32 * k + s) v2 207 (32 * k + s) = v1 := fun v1 v2 => by rw [c_up_n (by omega), c_up_s]
    have eS2 : ∀ v1 v2, e_up (e_up J 207 (32 * k + s) v1) 208 (32 * k + s) v2 208 (32 * k + s) = v2 := fun v1 v2 => c_up_s
    have eP : ∀ v1 v2, wh_P (wh_y G r) p (fun k' s' => e_up (e_up J 207 (32 * k + s) v1) 208 (32 * k + s) v2 207 (32 * k' + s')) (fun k' s' => e_up (e_up J 207 (32 * k + s) v1) 208 (32 * k + s) v2 208 (32 * k' + s')) k s ↔ wh_P (wh_y G r) p (fun k s => J 207 (32 * k + s)) (fun k s => J 208 (32 * k + s)) k s := fun v1 v2 => by
      unfold wh_P
      show (wh_y G r k s + e_up (e_up J 207 (32 * k + s) v1) 208 (32 * k + s) v2 207 (32 * (k + 1) + (s + 1)) < wh_y G r k 0 - p + e_up (e_up J 207 (32 * k + s) v1) 208 (32 * k + s) v2 207 (32 * (k + 1) + 1) ∨ (wh_y G r k 0 - p + e_up (e_up J 207 (32 * k + s) v1) 208 (32 * k + s) v2 207 (32 * (k + 1) + 1) = wh_y G r k s + e_up (e_up J 207 (32 * k + s) v1) 208 (32 * k + s) v2 207 (32 * (k + 1) + (s + 1)) ∧ e_up (e_up J 207 (32 * k + s) v1) 208 (32 * k + s) v2 208 (32 * (k + 1) + 1) + 1 < e_up (e_up J 207 (32 * k + s) v1) 208 (32 * k + s) v2 208 (32 * (k + 1) + (s + 1)))) ↔ _
      rw [eN, eN, eN, eN]
    rcases hz with ⟨hz, P⟩ | ⟨hz, P⟩
    · subst hz
      have kg := fw_233 fJ m8 hn hr hG h3 (show (0 : Int) = ((0 : Nat) : Int) from rfl) kn (by omega)
      have l1 := ld (32 * (x3 + 1) + 1) (32 * (k + 1) + 1) J (by omega) (by omega)
      refine fin _ _ _ _ (fw_90a q kz kg fJ.2.1 w1 w2 (a_w_id (by omega) (by omega)) w4 w5 (a_w_id (by omega) (by omega)) l1 (a_w_id (by omega) (by omega)) ((ld2 (32 * (x3 + 1) + 1) (32 * (k + 1) + 1) _ (by omega) (by omega)).trans (congrArg some (c_up_n (by omega)))) (a_w_id (by omega) (by omega)) wd (st _ _) (st2 _ _)) ?_
      unfold fw_c
      rw [eP, eS1, eS2, eN, eN, eN, eN]
      exact ⟨⟨fun _ => ⟨rfl, rfl⟩, fun h => absurd P h⟩, ⟨by omega, by omega⟩, by omega, by omega⟩
    · subst hz
      have kg := fw_233 fJ m8 hn hr hG h3 h4 kn (by omega)
      have l1 := ld (32 * (x3 + 1) + (x4 + 1)) (32 * (k + 1) + (s + 1)) J (by omega) (by omega)
      refine fin _ _ _ _ (fw_90b q kz kg w1 w2 wd (a_w_id (by omega) (by omega)) w4 w5 (a_w_id (by omega) (by omega)) l1 (a_w_id (by omega) (by omega)) ((ld2 (32 * (x3 + 1) + (x4 + 1)) (32 * (k + 1) + (s + 1)) _ (by omega) (by omega)).trans (congrArg some (c_up_n (by omega)))) (a_w_id (by omega) (by omega)) (st _ _) (st2 _ _)) ?_
      unfold fw_c
      rw [eP, eS1, eS2, eN, eN, eN, eN]
      exact ⟨⟨fun h => absurd h P, fun _ => ⟨rfl, rfl⟩⟩, ⟨by omega, by omega⟩, by omega, by omega⟩
theorem fw_83 (m8 : mN < 8) (hn : n ≤ 30) (hr : 0 ≤ r ∧ r ≤ 20) (hp : 0 ≤ p ∧ p ≤ 9999) (hG : ∀ k, k < n → 0 ≤ G k ∧ G k ≤ 999) {mI t3 : Int} : ∀ (c : Nat) (x3 x4 x5 x6 : Int) (K : EM), x3 = (c : Int) - 1 → c ≤ n → fw_f mN n r p G K → fw_V (wh_y G r) n p K c → ∃ K', E_V 235 83 [192, mI, t3, x3, x4, x5, x6] K = some (0, K') ∧ fw_f mN n r p G K' ∧ fw_V (wh_y G r) n p K' 0 ∧ ∀ id j, id ≠ 207 → id ≠ 208 → K' id j = K id j := by
  intro c
  induction c with
  | zero =>
    intro x3 x4 x5 x6 K h3 hc hf hV
    refine ⟨K, ?_, hf, hV, fun _ _ _ _ => rfl⟩
    have q : ¬ (0 ≤ x3) := by omega
    have qn : x3 < 0 := by omega
    clear hV hf
    rw [E_V_eq]
    show e_tv E_C (E_V 235) e_t235_83 [192, mI, t3, x3, x4, x5, x6] K = _
    unfold e_t235_83
    simp [zq_a, zq_b, zq_c, zq_d, zq_e, zq_f, zq_g, zq_h, zq_i, zq_j, zq_k, zq_l, zq_m, zq_n, zq_o, zq_p, zq_q, zq_r, zq_s, zq_t, zq_u, zq_v, zq_w, zq_x, zq_y, zq_z, zq_A, zq_B, zq_C, zq_D, zq_E, zq_F, zq_G, zq_H, zq_I, zq_J, zq_K, zq_L, ↓zq_M, ↓zq_N, ↓zq_O, ↓zq_P, ↓zq_Q, ↓zq_R, zq_S, zq_T, zq_U, zq_V, zq_W, zq_X, zq_Y, zq_Z, zq_0, zq_1, zq_2, zq_3, zq_4, zq_5, ↓zq_6, ↓zq_7, ↓zq_8, ↓zq_9, ↓zq_aa, zq_ab, zq_ac, zq_ad, zq_ae, zq_af, zq_ag, ↓zq_ah, ↓zq_ai, ↓zq_aj, zq_ak, ↓zq_al, ↓zq_am, e_b1, e_b2, x_o1, x_o2, q, qn]
  | succ c ih =>
    intro x3 x4 x5 x6 K h3 hc hf hV
    have e3 : x3 = (c : Int) := by omega
    obtain ⟨J', y4, y5, y6, k1, k2, k3⟩ := fw_90 hf m8 hn hr hp hG (t3 := t3) (show c < n by omega) hV (mI := mI) e3 (c + 1) 0 0 x5 x6 K rfl (by omega) (fun _ _ _ => rfl) (fun s' h => absurd h (Nat.not_lt_zero _))
    have V1 := fw_V_cg hn (show c + 1 ≤ n by omega) hV (K' := J') (fun k' s a1 a2 a3 => ⟨k2 _ _ (by omega), k2 _ _ (by omega)⟩)
    obtain ⟨K', k, f1, v1, g1⟩ := ih (x3 - 1) y4 y5 y6 J' (by omega) (by omega) (fw_f_cg hf (fun id j i1 i2 => k2 id j (by omega))) ⟨V1.1, fun k' s a1 a2 a3 => by
      by_cases e : k' = c
      · subst e
        exact (k3 s a3).1
      · exact V1.2.1 k' s (by omega) a2 a3, fun k' s a1 a2 a3 => by
      by_cases e : k' = c
      · subst e
        exact (k3 s a3).2
      · exact V1.2.2 k' s (by omega) a2 a3⟩
    refine ⟨K', ?_, f1, v1, fun id j i1 i2 => (g1 id j i1 i2).trans (k2 id j (by omega))⟩
    have q : 0 ≤ x3 := by omega
    have qn : ¬ x3 < 0 := by omega
    have kk := k1.trans k
    clear hV hf ih V1 k3 v1 f1 g1 k2 k1 k
    rw [E_V_eq]
    show e_tv E_C (E_V 235) e_t235_83 [192, mI, t3, x3, x4, x5, x6] K = _
    unfold e_t235_83
    simp [zq_a, zq_b, zq_c, zq_d, zq_e, zq_f, zq_g, zq_h, zq_i, zq_j, zq_k, zq_l, zq_m, zq_n, zq_o, zq_p, zq_q, zq_r, zq_s, zq_t, zq_u, zq_v, zq_w, zq_x, zq_y, zq_z, zq_A, zq_B, zq_C, zq_D, zq_E, zq_F, zq_G, zq_H, zq_I, zq_J, zq_K, zq_L, ↓zq_M, ↓zq_N, ↓zq_O, ↓zq_P, ↓zq_Q, ↓zq_R, zq_S, zq_T, zq_U, zq_V, zq_W, zq_X, zq_Y, zq_Z, zq_0, zq_1, zq_2, zq_3, zq_4, zq_5, ↓zq_6, ↓zq_7, ↓zq_8, ↓zq_9, ↓zq_aa, zq_ab, zq_ac, zq_ad, zq_ae, zq_af, zq_ag, ↓zq_ah, ↓zq_ai, ↓zq_aj, zq_ak, ↓zq_al, ↓zq_am, e_b1, e_b2, x_o1, x_o2, q, qn, kk]
theorem fw_235 (m8 : mN < 8) (hn : 1 ≤ n ∧ n ≤ 30) {mI told : Int} (hmI : mI = mN) (ht : 0 ≤ told ∧ told ≤ 209999) (h7 : K 197 mN = n) (h8 : ∀ k, k < n → K 198 (120 * mN + k) = G k) (hG : ∀ k, k < n → 0 ≤ G k ∧ G k ≤ 999) : ∃ K', E_C 235 [192, mI, told] K = some (0, K') ∧ fw_f mN n (told.tdiv 10000) (told.tmod 10000) G K' ∧ fw_V (wh_y G (told.tdiv 10000)) n (told.tmod 10000) K' 0 := by
  have hr : 0 ≤ told.tdiv 10000 ∧ told.tdiv 10000 ≤ 20 := by
    rw [Int.tdiv_eq_ediv_of_nonneg ht.1]
    omega
  have hp : 0 ≤ told.tmod 10000 ∧ told.tmod 10000 ≤ 9999 := by
    rw [Int.tmod_eq_emod_of_nonneg ht.1]
    omega
  have wr : e_w (told.tdiv 10000) = told.tdiv 10000 := a_w_id (by omega) (by omega)
  generalize hrr : told.tdiv 10000 = r at *
  generalize hpp : told.tmod 10000 = p at *
  have lp : ∀ (t s : Nat) (x3 x4 x5 x6 : Int) (J : EM), x3 = s → s + t = 32 → fw_f mN n r p G J → (∀ s', s' < s → J 207 (32 * n + s') = 0 ∧ J 208 (32 * n + s') = 0) → ∃ K', E_V 235 28 [192, mI, told, x3, x4, x5, x6] J = some (0, K') ∧ fw_f mN n r p G K' ∧ fw_V (wh_y G r) n p K' 0 := by
    intro t
    induction t with
    | zero =>
      intro s x3 x4 x5 x6 J h3 hs hf hz
      have ls := (r_isD mI J ⟨by omega, by omega⟩).2.2.1
      rw [show mI.toNat = mN by omega, hf.2.2.2.1] at ls
      obtain ⟨K', k, f, v, -⟩ := fw_83 m8 hn.2 hr hp hG (mI := mI) (t3 := told) n ((n : Int) - 1) x4 x5 x6 J rfl (Nat.le_refl _) hf ⟨fun s hs' => hz s (by omega), fun k' s a1 a2 => by omega, fun k' s a1 a2 a3 => by
        have e : k' = n := by omega
        subst e
        rw [(hz s (by omega)).1, (hz s (by omega)).2]
        exact ⟨⟨by omega, by omega⟩, by omega, by omega⟩⟩
      refine ⟨K', ?_, f, v⟩
      have q : ¬ (x3 < 32) := by omega
      have w1 : e_w ((n : Int) - 1) = (n : Int) - 1 := a_w_id (by omega) (by omega)
      clear hz hf f v
      generalize (n : Int) = nn at *
      rw [E_V_eq]
      show e_tv E_C (E_V 235) e_t235_28 [192, mI, told, x3, x4, x5, x6] J = _
      unfold e_t235_28
      simp [zq_a, zq_b, zq_c, zq_d, zq_e, zq_f, zq_g, zq_h, zq_i, zq_j, zq_k, zq_l, zq_m, zq_n, zq_o, zq_p, zq_q, zq_r, zq_s, zq_t, zq_u, zq_v, zq_w, zq_x, zq_y, zq_z, zq_A, zq_B, zq_C, zq_D, zq_E, zq_F, zq_G, zq_H, zq_I, zq_J, zq_K, zq_L, ↓zq_M, ↓zq_N, ↓zq_O, ↓zq_P, ↓zq_Q, ↓zq_R, zq_S, zq_T, zq_U, zq_V, zq_W, zq_X, zq_Y, zq_Z, zq_0, zq_1, zq_2, zq_3, zq_4, zq_5, ↓zq_6, ↓zq_7, ↓zq_8, ↓zq_9, ↓zq_aa, zq_ab, zq_ac, zq_ad, zq_ae, zq_af, zq_ag, ↓zq_ah, ↓zq_ai, ↓zq_aj, zq_ak, ↓zq_al, ↓zq_am, e_b1, e_b2, x_o1, x_o2, r_O4, q, ls, w1, k]
    | succ t ih =>
      intro s x3 x4 x5 x6 J h3 hs hf hz
      have ls := (r_isD mI J ⟨by omega, by omega⟩).2.2.1
      rw [show mI.toNat = mN by omega, hf.2.2.2.1] at ls
      have ls2 := (r_isD mI (e_up J 207 (32 * n + s) 0) ⟨by omega, by omega⟩).2.2.1
      rw [show mI.toNat = mN by omega, c_up_n (by omega), hf.2.2.2.1] at ls2
      have ea : (32 * (n : Int) + x3).toNat = 32 * n + s := by omega
      have st : e_st 100 [207, 32 * (n : Int) + x3, 0] J = some (e_up J 207 (32 * n + s) 0) := (r_stA (a := 207) (n := 1023) (by decide) (by decide) (by decide +kernel) (by omega) (by omega)).trans (by rw [ea]; rfl)
      have st2 : e_st 100 [208, 32 * (n : Int) + x3, 0] (e_up J 207 (32 * n + s) 0) = some (e_up (e_up J 207 (32 * n + s) 0) 208 (32 * n + s) 0) := (r_stA (a := 208) (n := 1023) (by decide) (by decide) (by decide +kernel) (by omega) (by omega)).trans (by rw [ea]; rfl)
      obtain ⟨K', k, f, v⟩ := ih (s + 1) (x3 + 1) x4 x5 x6 (e_up (e_up J 207 (32 * n + s) 0) 208 (32 * n + s) 0) (by omega) (by omega) (fw_f_cg hf (fun id j i1 i2 => by rw [c_up_n (by omega), c_up_n (by omega)])) (fun s' hs' => by
        by_cases e : s' = s
        · subst e
          rw [c_up_n (by omega), c_up_s, c_up_s]
          exact ⟨rfl, rfl⟩
        · rw [c_up_n (by omega), c_up_n (by omega), c_up_n (by omega), c_up_n (by omega)]
          exact hz s' (by omega))
      refine ⟨K', ?_, f, v⟩
      have q : x3 < 32 := by omega
      have w1 : e_w (x3 + 1) = x3 + 1 := a_w_id (by omega) (by omega)
      have w6 : e_w (32 * (n : Int)) = 32 * (n : Int) := a_w_id (by omega) (by omega)
      have w7 : e_w (32 * (n : Int) + x3) = 32 * (n : Int) + x3 := a_w_id (by omega) (by omega)
      generalize e_up (e_up J 207 (32 * n + s) 0) 208 (32 * n + s) 0 = J2 at *
      generalize e_up J 207 (32 * n + s) 0 = J1 at *
      clear hz hf f v ih
      generalize (n : Int) = nn at *
      rw [E_V_eq]
      show e_tv E_C (E_V 235) e_t235_28 [192, mI, told, x3, x4, x5, x6] J = _
      unfold e_t235_28
      simp [zq_a, zq_b, zq_c, zq_d, zq_e, zq_f, zq_g, zq_h, zq_i, zq_j, zq_k, zq_l, zq_m, zq_n, zq_o, zq_p, zq_q, zq_r, zq_s, zq_t, zq_u, zq_v, zq_w, zq_x, zq_y, zq_z, zq_A, zq_B, zq_C, zq_D, zq_E, zq_F, zq_G, zq_H, zq_I, zq_J, zq_K, zq_L, ↓zq_M, ↓zq_N, ↓zq_O, ↓zq_P, ↓zq_Q, ↓zq_R, zq_S, zq_T, zq_U, zq_V, zq_W, zq_X, zq_Y, zq_Z, zq_0, zq_1, zq_2, zq_3, zq_4, zq_5, ↓zq_6, ↓zq_7, ↓zq_8, ↓zq_9, ↓zq_aa, zq_ab, zq_ac, zq_ad, zq_ae, zq_af, zq_ag, ↓zq_ah, ↓zq_ai, ↓zq_aj, zq_ak, ↓zq_al, ↓zq_am, e_b1, e_b2, x_o1, x_o2, r_O4, r_O31, r_O32, q, ls, ls2, w1, w6, w7, st, st2, k]
  obtain ⟨K', k, f, v⟩ := lp 32 0 0 0 0 0 (e_up (e_up (e_up K 192 33 r) 192 34 p) 192 35 (120 * (mN : Int))) rfl rfl ⟨by rw [c_up_n (by omega), c_up_n (by omega), c_up_s], by rw [c_up_n (by omega), c_up_s], c_up_s, by rw [c_up_n (by omega), c_up_n (by omega), c_up_n (by omega)]; exact h7, fun k hk => by rw [c_up_n (by omega), c_up_n (by omega), c_up_n (by omega)]; exact h8 k hk⟩ (fun s' h => absurd h (Nat.not_lt_zero _))
  refine ⟨K', ?_, f, v⟩
  have w1 : e_w (120 * (mN : Int)) = 120 * (mN : Int) := a_w_id (by omega) (by omega)
  rw [hmI] at k ⊢
  clear f v lp
  generalize (mN : Int) = mm at *
  rw [r_ent (show e_rok 235 [192, mm, told] = true from decide_eq_true r_ref)]
  show e_tv E_C (E_V 235) e_t235_0 [192, mm, told, 0, 0, 0, 0] K = _
  unfold e_t235_0
  simp [zq_a, zq_b, zq_c, zq_d, zq_e, zq_f, zq_g, zq_h, zq_i, zq_j, zq_k, zq_l, zq_m, zq_n, zq_o, zq_p, zq_q, zq_r, zq_s, zq_t, zq_u, zq_v, zq_w, zq_x, zq_y, zq_z, zq_A, zq_B, zq_C, zq_D, zq_E, zq_F, zq_G, zq_H, zq_I, zq_J, zq_K, zq_L, ↓zq_M, ↓zq_N, ↓zq_O, ↓zq_P, ↓zq_Q, ↓zq_R, zq_S, zq_T, zq_U, zq_V, zq_W, zq_X, zq_Y, zq_Z, zq_0, zq_1, zq_2, zq_3, zq_4, zq_5, ↓zq_6, ↓zq_7, ↓zq_8, ↓zq_9, ↓zq_aa, zq_ab, zq_ac, zq_ad, zq_ae, zq_af, zq_ag, ↓zq_ah, ↓zq_ai, ↓zq_aj, zq_ak, ↓zq_al, ↓zq_am, e_b1, e_b2, x_o1, x_o2, r_P33, r_P34, r_P35, hrr, hpp, wr, w1, k]
end FX
