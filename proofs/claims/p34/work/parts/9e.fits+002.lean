theorem r_fv_0 {p d : Int} {M M' : EM} (h : (0 ≤ p ∧ p < r_G M 1198) ∧ (0 ≤ d ∧ d ≤ 7) ∧ M 197 d.toNat ≤ 40) (hJ : r_J M') (hf : a_fr r_wq M M') (hc : r_cd 48 48 M') : r_fv p d M' := ⟨hJ, by rw [r_q_G hf]; exact h.1, h.2.1, by rw [r_q_same hf (by decide)]; exact h.2.2, hc⟩
theorem r_fits {p d i : Int} {M : EM} (hJ : r_J M) : r_Q 253 [192, p, d, i] M := by
  rcases x_lt i (-1) with ⟨q0, q0_n⟩ | ⟨q0, q0_n⟩
  · refine r_same (r := -1) hJ ?_
    rw [r_ent (show e_rok 253 [192, p, d, i] = true from decide_eq_true r_ref)]
    show e_tv E_C (E_V 253) e_t253_0 [192, p, d, i, 0, 0, 0] M = _
    unfold e_t253_0
    simp [e_tv, e_ev, e_sv, e_b1, e_b2, x_o1, x_o2, q0, q0_n]
  · obtain ⟨n, kn, hn⟩ := r_wrongFits (p := p) (d := d) hJ
    by_cases q : n = 0
    · subst q
      have h := hn rfl
      obtain ⟨M1, k1, t1, t2, t3⟩ := r_gathers hJ h.1
      obtain ⟨r, M', k, u1, u2⟩ := r_fits_loop (i := i) _ 0 0 M1 (r_fv_0 h t1 t2 t3) rfl rfl (Nat.le_refl _) (by decide)
      refine ⟨r, M', ?_, u1.1, a_fr_tr t2 u2, u1.2.2.2.2⟩
      rw [r_ent (show e_rok 253 [192, p, d, i] = true from decide_eq_true r_ref)]
      show e_tv E_C (E_V 253) e_t253_0 [192, p, d, i, 0, 0, 0] M = _
      unfold e_t253_0
      simp [e_tv, e_ev, e_sv, e_b1, e_b2, x_o1, x_o2, q0, q0_n, kn, k1, k]
    · refine r_same (r := n) hJ ?_
      rw [r_ent (show e_rok 253 [192, p, d, i] = true from decide_eq_true r_ref)]
      show e_tv E_C (E_V 253) e_t253_0 [192, p, d, i, 0, 0, 0] M = _
      unfold e_t253_0
      simp [e_tv, e_ev, e_sv, e_b1, e_b2, x_o1, x_o2, q0, q0_n, kn, q]
theorem r_ld212 {i : Int} {M : EM} (h0 : 0 ≤ i) (hi : i ≤ 11736) : e_op 60 [212, i] M = some (M 212 i.toNat) := r_rdA (a := 212) (n := 11736) (by decide) (by decide) (by decide +kernel) h0 hi
theorem r_st212 {i v : Int} {M : EM} (h0 : 0 ≤ i) (hi : i ≤ 11736) : e_st 100 [212, i, v] M = some (e_up M 212 i.toNat v) := r_stA (a := 212) (n := 11736) (by decide) (by decide) (by decide +kernel) h0 hi
theorem r_lk_like {p d x5 x6 u x8 a : Int} {n : Int} {M : EM} (hn : n ≤ 97) (hu : 0 ≤ u ∧ u ≤ 120) (ha : 0 ≤ a ∧ a < n) (H : ∀ y8 y10 y11, ∃ r, E_V 254 142 [192, p, d, 0, n, x5, x6, u, y8, a + 1, y10, y11] M = some (r, M)) : ∀ (m : Nat) (x10 x11 : Int), (n - x11).toNat ≤ m → 0 ≤ x11 → ∃ r, E_V 254 155 [192, p, d, 0, n, x5, x6, u, x8, a, x10, x11] M = some (r, M) := by
  have w0 : e_w (a + 1) = a + 1 := a_w_id (by omega) (by omega)
  have hend : ∀ x10 x11, ¬ (x11 < n) → ∃ r, E_V 254 155 [192, p, d, 0, n, x5, x6, u, x8, a, x10, x11] M = some (r, M) := by
    intro x10 x11 q
    rcases x_lt x8 x10 with ⟨c, c_n⟩ | ⟨c, c_n⟩
    · obtain ⟨r, k⟩ := H x10 x10 x11
      refine ⟨r, ?_⟩
      rw [E_V_eq]
      show e_tv E_C (E_V 254) e_t254_155 [192, p, d, 0, n, x5, x6, u, x8, a, x10, x11] M = _
      unfold e_t254_155
      simp [e_tv, e_ev, e_sv, e_b1, e_b2, x_o1, x_o2, q, c, c_n, w0, k]
    · obtain ⟨r, k⟩ := H x8 x10 x11
      refine ⟨r, ?_⟩
      rw [E_V_eq]
      show e_tv E_C (E_V 254) e_t254_155 [192, p, d, 0, n, x5, x6, u, x8, a, x10, x11] M = _
      unfold e_t254_155
      simp [e_tv, e_ev, e_sv, e_b1, e_b2, x_o1, x_o2, q, c, c_n, w0, k]
  intro m
  induction m with
  | zero => intro x10 x11 hm h0; exact hend x10 x11 (by omega)
  | succ m ih =>
    intro x10 x11 hm h0
    rcases x_lt x11 n with ⟨q, q_n⟩ | ⟨q, q_n⟩
    · have w1 : e_w (121 * a) = 121 * a := a_w_id (by omega) (by omega)
      have w2 : e_w (121 * a + u) = 121 * a + u := a_w_id (by omega) (by omega)
      have w3 : e_w (121 * x11) = 121 * x11 := a_w_id (by omega) (by omega)
      have w4 : e_w (121 * x11 + u) = 121 * x11 + u := a_w_id (by omega) (by omega)
      have w5 : e_w (x11 + 1) = x11 + 1 := a_w_id (by omega) (by omega)
      have l1 := r_ld212 (i := 121 * a + u) (M := M) (by omega) (by omega)
      have l2 := r_ld212 (i := 121 * x11 + u) (M := M) (by omega) (by omega)
      by_cases c : M 212 (121 * a + u).toNat = M 212 (121 * x11 + u).toNat
      · obtain ⟨r, k⟩ := ih (e_w (x10 + 1)) (x11 + 1) (by omega) (by omega)
        refine ⟨r, ?_⟩
        rw [E_V_eq]
        show e_tv E_C (E_V 254) e_t254_155 [192, p, d, 0, n, x5, x6, u, x8, a, x10, x11] M = _
        unfold e_t254_155
        simp [e_tv, e_ev, e_sv, e_b1, e_b2, x_o1, x_o2, r_O39, q, q_n, w1, w2, w3, w4, w5, l1, l2, c, k]
      · obtain ⟨r, k⟩ := ih (e_w (x10 + 0)) (x11 + 1) (by omega) (by omega)
        rw [Int.add_zero] at k
        refine ⟨r, ?_⟩
        rw [E_V_eq]
        show e_tv E_C (E_V 254) e_t254_155 [192, p, d, 0, n, x5, x6, u, x8, a, x10, x11] M = _
        unfold e_t254_155
        simp [e_tv, e_ev, e_sv, e_b1, e_b2, x_o1, x_o2, r_O39, q, q_n, w1, w2, w3, w4, w5, l1, l2, c, k]
    · exact hend x10 x11 q
theorem r_lk_a {p d x5 x6 u : Int} {n : Int} {M : EM} (hn : n ≤ 97) (hu : 0 ≤ u ∧ u ≤ 120) (H : ∀ y5 y6 y8 y9 y10 y11, ∃ r, E_V 254 124 [192, p, d, 0, n, y5, y6, u + 1, y8, y9, y10, y11] M = some (r, M)) : ∀ (m : Nat) (x8 a x10 x11 : Int), (n - a).toNat ≤ m → 0 ≤ a → ∃ r, E_V 254 142 [192, p, d, 0, n, x5, x6, u, x8, a, x10, x11] M = some (r, M) := by
  have w0 : e_w (u + 1) = u + 1 := a_w_id (by omega) (by omega)
  have hend : ∀ x8 a x10 x11, ¬ (a < n) → ∃ r, E_V 254 142 [192, p, d, 0, n, x5, x6, u, x8, a, x10, x11] M = some (r, M) := by
    intro x8 a x10 x11 q
    have hgo : ∀ y5 y6, ∃ r, E_V 254 252 [192, p, d, 0, n, y5, y6, u, x8, a, x10, x11] M = some (r, M) := by
      intro y5 y6
      obtain ⟨r, k⟩ := H y5 y6 x8 a x10 x11
      refine ⟨r, ?_⟩
      rw [E_V_eq]
      show e_tv E_C (E_V 254) e_t254_252 [192, p, d, 0, n, y5, y6, u, x8, a, x10, x11] M = _
      unfold e_t254_252
      simp [e_tv, e_ev, e_sv, e_b1, e_b2, x_o1, x_o2, w0, k]
    rcases x_le 0 x5 with ⟨c1, c1_n⟩ | ⟨c1, c1_n⟩
    · rcases x_le x6 x8 with ⟨c2, c2_n⟩ | ⟨c2, c2_n⟩
      · obtain ⟨r, k⟩ := hgo x5 x6
        refine ⟨r, ?_⟩
        rw [E_V_eq]
        show e_tv E_C (E_V 254) e_t254_142 [192, p, d, 0, n, x5, x6, u, x8, a, x10, x11] M = _
        unfold e_t254_142
        simp [e_tv, e_ev, e_sv, e_b1, e_b2, x_o1, x_o2, q, c1, c1_n, c2, c2_n, k]
      · obtain ⟨r, k⟩ := hgo u x8
        refine ⟨r, ?_⟩
        rw [E_V_eq]
        show e_tv E_C (E_V 254) e_t254_142 [192, p, d, 0, n, x5, x6, u, x8, a, x10, x11] M = _
        unfold e_t254_142
        simp [e_tv, e_ev, e_sv, e_b1, e_b2, x_o1, x_o2, q, c1, c1_n, c2, c2_n, k]
    · obtain ⟨r, k⟩ := hgo u x8
      refine ⟨r, ?_⟩
      rw [E_V_eq]
      show e_tv E_C (E_V 254) e_t254_142 [192, p, d, 0, n, x5, x6, u, x8, a, x10, x11] M = _
      unfold e_t254_142
      simp [e_tv, e_ev, e_sv, e_b1, e_b2, x_o1, x_o2, q, c1, c1_n, k]
  intro m
  induction m with
  | zero => intro x8 a x10 x11 hm h0; exact hend x8 a x10 x11 (by omega)
  | succ m ih =>
    intro x8 a x10 x11 hm h0
    rcases x_lt a n with ⟨q, q_n⟩ | ⟨q, q_n⟩
    · obtain ⟨r, k⟩ := r_lk_like (p := p) (d := d) (x5 := x5) (x6 := x6) (x8 := x8) hn hu ⟨h0, q⟩ (fun y8 y10 y11 => ih y8 (a + 1) y10 y11 (by omega) (by omega)) _ 0 0 (Nat.le_refl _) (by decide)
      refine ⟨r, ?_⟩
      rw [E_V_eq]
      show e_tv E_C (E_V 254) e_t254_142 [192, p, d, 0, n, x5, x6, u, x8, a, x10, x11] M = _
      unfold e_t254_142
      simp [e_tv, e_ev, e_sv, e_b1, e_b2, x_o1, x_o2, q, q_n, k]
    · exact hend x8 a x10 x11 q
