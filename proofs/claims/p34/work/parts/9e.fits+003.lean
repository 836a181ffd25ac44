theorem r_lk_u {p d n : Int} {M : EM} (hn : n ≤ 97) : ∀ (m : Nat) (x5 x6 u x8 x9 x10 x11 : Int), (121 - u).toNat ≤ m → 0 ≤ u → ∃ r, E_V 254 124 [192, p, d, 0, n, x5, x6, u, x8, x9, x10, x11] M = some (r, M) := by
  have hend : ∀ x5 x6 u x8 x9 x10 x11, ¬ (u ≤ 120 ∧ 0 < n) → ∃ r, E_V 254 124 [192, p, d, 0, n, x5, x6, u, x8, x9, x10, x11] M = some (r, M) := by
    intro x5 x6 u x8 x9 x10 x11 q
    refine ⟨x5, ?_⟩
    rcases x_le u 120 with ⟨q0, q0_n⟩ | ⟨q0, q0_n⟩
    · have q1 : ¬ (0 < n) := fun e => q ⟨q0, e⟩
      have q1' : n ≤ 0 := by omega
      rw [E_V_eq]
      show e_tv E_C (E_V 254) e_t254_124 [192, p, d, 0, n, x5, x6, u, x8, x9, x10, x11] M = _
      unfold e_t254_124
      simp [e_tv, e_ev, e_sv, e_b1, e_b2, x_o1, x_o2, q0, q0_n, q1, q1']
    · rw [E_V_eq]
      show e_tv E_C (E_V 254) e_t254_124 [192, p, d, 0, n, x5, x6, u, x8, x9, x10, x11] M = _
      unfold e_t254_124
      simp [e_tv, e_ev, e_sv, e_b1, e_b2, x_o1, x_o2, q0, q0_n]
  intro m
  induction m with
  | zero => intro x5 x6 u x8 x9 x10 x11 hm h0; exact hend x5 x6 u x8 x9 x10 x11 (by omega)
  | succ m ih =>
    intro x5 x6 u x8 x9 x10 x11 hm h0
    by_cases q : u ≤ 120 ∧ 0 < n
    · obtain ⟨q0, q1⟩ := q
      have q0' : ¬ (120 < u) := by omega
      have q1' : ¬ (n ≤ 0) := by omega
      obtain ⟨r, k⟩ := r_lk_a (p := p) (d := d) (x5 := x5) (x6 := x6) hn ⟨h0, q0⟩ (fun y5 y6 y8 y9 y10 y11 => ih y5 y6 (u + 1) y8 y9 y10 y11 (by omega) (by omega)) _ 0 0 x10 x11 (Nat.le_refl _) (by decide)
      refine ⟨r, ?_⟩
      rw [E_V_eq]
      show e_tv E_C (E_V 254) e_t254_124 [192, p, d, 0, n, x5, x6, u, x8, x9, x10, x11] M = _
      unfold e_t254_124
      simp [e_tv, e_ev, e_sv, e_b1, e_b2, x_o1, x_o2, q0, q0', q1, q1', k]
    · exact hend x5 x6 u x8 x9 x10 x11 q
theorem r_lk_copy {p d x5 x7 x8 x9 x10 x11 n : Int} {c1 c2 : Int} (hn : 0 ≤ n ∧ n ≤ 96) (H : ∀ M, r_fv p d M → M 192 13 = c1 → M 192 14 = c2 → ∀ y6, ∃ r M', E_V 254 108 [192, p, d, 0, n + 1, x5, y6, x7, x8, x9, x10, x11] M = some (r, M') ∧ r_J M' ∧ a_fr r_wq M M') : ∀ (m : Nat) (x6 : Int) (M : EM), r_fv p d M → M 192 13 = c1 → M 192 14 = c2 → (121 - x6).toNat ≤ m → 0 ≤ x6 → ∃ r M', E_V 254 72 [192, p, d, 0, n, x5, x6, x7, x8, x9, x10, x11] M = some (r, M') ∧ r_J M' ∧ a_fr r_wq M M' := by
  have w0 : e_w (n + 1) = n + 1 := a_w_id (by omega) (by omega)
  have hend : ∀ x6 M, r_fv p d M → M 192 13 = c1 → M 192 14 = c2 → ¬ (x6 ≤ 120) → ∃ r M', E_V 254 72 [192, p, d, 0, n, x5, x6, x7, x8, x9, x10, x11] M = some (r, M') ∧ r_J M' ∧ a_fr r_wq M M' := by
    intro x6 M hv e1 e2 q
    obtain ⟨r, M', k, t⟩ := H M hv e1 e2 x6
    refine ⟨r, M', ?_, t⟩
    rw [E_V_eq]
    show e_tv E_C (E_V 254) e_t254_72 [192, p, d, 0, n, x5, x6, x7, x8, x9, x10, x11] M = _
    unfold e_t254_72
    simp [e_tv, e_ev, e_sv, e_b1, e_b2, x_o1, x_o2, q, w0, k]
  intro m
  induction m with
  | zero => intro x6 M hv e1 e2 hm h0; exact hend x6 M hv e1 e2 (by omega)
  | succ m ih =>
    intro x6 M hv e1 e2 hm h0
    rcases x_le x6 120 with ⟨q, q_n⟩ | ⟨q, q_n⟩
    · have w1 : e_w (121 * n) = 121 * n := a_w_id (by omega) (by omega)
      have w2 : e_w (121 * n + x6) = 121 * n + x6 := a_w_id (by omega) (by omega)
      have w3 : e_w (x6 + 1) = x6 + 1 := a_w_id (by omega) (by omega)
      have g1 := r_rd5 (M := M) h0 (by omega)
      have hv1 : -2147483648 ≤ M 205 x6.toNat ∧ M 205 x6.toNat ≤ 2147483647 := c_M32 hv.1.1 (by decide) (by decide +kernel)
      have st := r_st212 (i := 121 * n + x6) (v := M 205 x6.toNat) (M := M) (by omega) (by omega)
      obtain ⟨u1, u2⟩ := r_qarr (a := 212) (n := 11736) (k := (121 * n + x6).toNat) (by decide) (by omega) hv1 hv.1
      have f3 : (e_up M 212 (121 * n + x6).toNat (M 205 x6.toNat)) 192 13 = M 192 13 := c_up_n (fun hc => absurd hc.1 (by decide))
      have f4 : (e_up M 212 (121 * n + x6).toNat (M 205 x6.toNat)) 192 14 = M 192 14 := c_up_n (fun hc => absurd hc.1 (by decide))
      obtain ⟨r, M', k, t1, t2⟩ := ih (x6 + 1) _ (r_fv_to hv u1 u2 f3 f4) (f3.trans e1) (f4.trans e2) (by omega) (by omega)
      refine ⟨r, M', ?_, t1, a_fr_tr u2 t2⟩
      rw [E_V_eq]
      show e_tv E_C (E_V 254) e_t254_72 [192, p, d, 0, n, x5, x6, x7, x8, x9, x10, x11] M = _
      unfold e_t254_72
      simp [e_tv, e_ev, e_sv, e_b1, e_b2, x_o1, x_o2, r_O25, r_O39, q, q_n, w1, w2, w3, g1, st, k]
    · exact hend x6 M hv e1 e2 q
theorem r_lk_k {p d c1 c2 x7 x8 x9 x10 x11 : Int} : ∀ (m : Nat) (n x5 x6 : Int) (M : EM), r_fv p d M → M 192 13 = c1 → M 192 14 = c2 → (1 + c1 + c2 - x5).toNat ≤ m → 0 ≤ x5 → x5 ≤ 1 + c1 + c2 → 0 ≤ n → n ≤ x5 → ∃ r M', E_V 254 24 [192, p, d, 0, n, x5, x6, x7, x8, x9, x10, x11] M = some (r, M') ∧ r_J M' ∧ a_fr r_wq M M' := by
  have hend : ∀ n x5 x6 M, r_fv p d M → M 192 13 = c1 → M 192 14 = c2 → ¬ (x5 < 1 + c1 + c2) → x5 ≤ 1 + c1 + c2 → n ≤ x5 → ∃ r M', E_V 254 24 [192, p, d, 0, n, x5, x6, x7, x8, x9, x10, x11] M = some (r, M') ∧ r_J M' ∧ a_fr r_wq M M' := by
    intro n x5 x6 M hv e1 e2 q h5 hn
    obtain ⟨⟨a1, a2⟩, a3, a4⟩ := hv.2.2.2.2
    have w1 : e_w (1 + M 192 13) = 1 + c1 := by rw [a_w_id (by omega) (by omega), e1]
    have w2 : e_w (1 + c1 + M 192 14) = 1 + c1 + c2 := by rw [a_w_id (by omega) (by omega), e2]
    obtain ⟨r, k⟩ := r_lk_u (p := p) (d := d) (n := n) (M := M) (by omega) 121 (-4) 0 0 x8 x9 x10 x11 (by decide) (by decide)
    refine ⟨r, M, ?_, hv.1, a_fr_rf⟩
    rw [E_V_eq]
    show e_tv E_C (E_V 254) e_t254_24 [192, p, d, 0, n, x5, x6, x7, x8, x9, x10, x11] M = _
    unfold e_t254_24
    simp [e_tv, e_ev, e_sv, e_b1, e_b2, x_o1, x_o2, r_F13, r_F14, w1, w2, q, k]
  intro m
  induction m with
  | zero => intro n x5 x6 M hv e1 e2 hm h0 h5 hn0 hn; exact hend n x5 x6 M hv e1 e2 (by omega) h5 hn
  | succ m ih =>
    intro n x5 x6 M hv e1 e2 hm h0 h5 hn0 hn
    rcases x_lt x5 (1 + c1 + c2) with ⟨q, q_n⟩ | ⟨q, q_n⟩
    · obtain ⟨⟨a1, a2⟩, a3, a4⟩ := hv.2.2.2.2
      have w1 : e_w (1 + M 192 13) = 1 + c1 := by rw [a_w_id (by omega) (by omega), e1]
      have w2 : e_w (1 + c1 + M 192 14) = 1 + c1 + c2 := by rw [a_w_id (by omega) (by omega), e2]
      have w3 : e_w (x5 + 1) = x5 + 1 := a_w_id (by omega) (by omega)
      obtain ⟨s, M1, k1, b0, b1, b2, b3, b4⟩ := r_fitsBy (k := x5) hv ⟨h0, by omega⟩
      have hgo : ∀ M2, r_fv p d M2 → M2 192 13 = c1 → M2 192 14 = c2 → ∀ n' y6, 0 ≤ n' → n' ≤ x5 + 1 → ∃ r M', E_V 254 108 [192, p, d, 0, n', x5, y6, x7, x8, x9, x10, x11] M2 = some (r, M') ∧ r_J M' ∧ a_fr r_wq M2 M' := by
        intro M2 hv2 f1 f2 n' y6 hn' hn2
        obtain ⟨r, M', k, t⟩ := ih n' (x5 + 1) y6 M2 hv2 f1 f2 (by omega) (by omega) (by omega) hn' hn2
        refine ⟨r, M', ?_, t⟩
        rw [E_V_eq]
        show e_tv E_C (E_V 254) e_t254_108 [192, p, d, 0, n', x5, y6, x7, x8, x9, x10, x11] M2 = _
        unfold e_t254_108
        simp [e_tv, e_ev, e_sv, e_b1, e_b2, x_o1, x_o2, w3, k]
      rcases b0 with b0 | b0
      · subst b0
        obtain ⟨r, M', k, t1, t2⟩ := hgo M1 b1 (b3.trans e1) (b4.trans e2) n x6 hn0 (by omega)
        refine ⟨r, M', ?_, t1, a_fr_tr b2 t2⟩
        rw [E_V_eq]
        show e_tv E_C (E_V 254) e_t254_24 [192, p, d, 0, n, x5, x6, x7, x8, x9, x10, x11] M = _
        unfold e_t254_24
        simp [e_tv, e_ev, e_sv, e_b1, e_b2, x_o1, x_o2, r_F13, r_F14, w1, w2, q, q_n, k1, k]
      · subst b0
        obtain ⟨M2, k2, d1, d2, d3, d4⟩ := r_takesFault (k := x5) b1.1 b1.2.2.2.2 ⟨h0, by rw [b3, b4]; omega⟩
        have v2 := r_fv_to b1 d1 d2 d3 d4
        have hW2 := (r_J_E d1).2.1
        obtain ⟨M3, k3, g⟩ := r_gives (r_J_E d1) hW2.2.1 (r_pt_of hW2 v2.2.1)
        have J3 := r_ev_J d1 g
        have v3 := r_fv_to v2 J3 (r_evq g) (r_ev_same g (by decide) (by decide)) (r_ev_same g (by decide) (by decide))
        obtain ⟨M4, k4, h1, h2, h3, h4⟩ := r_noFault J3
        have v4 := r_fv_to v3 h1 h2 h3 h4
        have q13 : M4 192 13 = c1 := h3.trans ((r_ev_same g (by decide) (by decide)).trans (d3.trans (b3.trans e1)))
        have q14 : M4 192 14 = c2 := h4.trans ((r_ev_same g (by decide) (by decide)).trans (d4.trans (b4.trans e2)))
        obtain ⟨r, M', k, t1, t2⟩ := r_lk_copy (x5 := x5) (x7 := x7) (x8 := x8) (x9 := x9) (x10 := x10) (x11 := x11) (n := n) ⟨hn0, by omega⟩ (fun M5 v5 f1 f2 y6 => hgo M5 v5 f1 f2 (n + 1) y6 (by omega) (by omega)) 121 0 M4 v4 q13 q14 (by decide) (by decide)
        refine ⟨r, M', ?_, t1, a_fr_tr b2 (a_fr_tr d2 (a_fr_tr (r_evq g) (a_fr_tr h2 t2)))⟩
        rw [E_V_eq]
        show e_tv E_C (E_V 254) e_t254_24 [192, p, d, 0, n, x5, x6, x7, x8, x9, x10, x11] M = _
        unfold e_t254_24
        simp [e_tv, e_ev, e_sv, e_b1, e_b2, x_o1, x_o2, r_F13, r_F14, w1, w2, q, q_n, k1, k2, k3, k4, k]
    · exact hend n x5 x6 M hv e1 e2 q h5 hn
