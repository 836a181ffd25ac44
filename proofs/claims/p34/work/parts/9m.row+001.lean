section RROW
variable {p a : Int} {g0 : Int → Int} {M0 : EM}
theorem r_RI_w {n x4 i v : Int} {N : EM} (h : r_RI p g0 M0 n x4 N) (hp : 0 ≤ p) (hi : 28 * p + 11 ≤ i ∧ i < 28 * p + 28 ∨ i = 28 * p + 2) (hv : -2147483648 ≤ v ∧ v ≤ 2147483647) : r_RI p g0 M0 n x4 (e_up N 193 i.toNat v) := by
  obtain ⟨a1, a2, a3, a4⟩ := h
  refine ⟨r_mk_w a1 hp (by omega) (fun e => absurd e (by decide)) (fun e => absurd e (by decide)) hv, a2, a3, fun h k k0 k1 => ?_⟩
  rw [r_G_n (by omega) (by omega)]
  exact a4 h k k0 k1
theorem r_RI_p {n x4 v : Int} {N : EM} (h : r_RI p g0 M0 n x4 N) (hv : -2147483648 ≤ v ∧ v ≤ 2147483647) : r_RI p g0 M0 n x4 (e_up N 192 15 v) := by
  obtain ⟨a1, a2, a3, a4⟩ := h
  refine ⟨r_mk_p a1 hv, a2, a3, ?_⟩
  rw [r_up_Gne (by decide)]
  exact a4
theorem r_RI_t {n x4 : Int} {N N' : EM} (h : r_RI p g0 M0 n x4 N) (t : r_tt N N') : r_RI p g0 M0 n x4 N' := by
  obtain ⟨a1, a2, a3, a4⟩ := h
  have eG : r_G N' = r_G N := funext fun i => t.2.1 _ _ (by omega)
  exact ⟨r_mk_t a1 t, a2, a3, by rw [eG]; exact a4⟩
theorem r_mr_195 {n gr x4 x5 x6 x7 : Int} {N : EM} (hp : 0 ≤ p ∧ p < 40) (hb : r_bl M0) (hH : r_RH p a g0 M0) (h : r_RI p g0 M0 n x4 N) (hq : a < N 192 15 ∧ 0 ≤ N 192 15 ∧ N 192 15 ≤ 125) (hg : 0 ≤ gr ∧ gr + 1 ≤ N 192 15) (hgn : x4 = 1 → gr + 1 ≤ n) : r_MR p a g0 M0 (E_V 186 195 [192, p, n, gr, x4, x5, x6, x7] N) := by
  have TN := r_mk_ty h.1 hb ⟨by omega, by omega⟩
  have ks := r_sign TN
  have w1 : e_w (gr + 1) = gr + 1 := a_w_id (by omega) (by omega)
  by_cases c : r_sg N = 32
  · have hl := r_sg_lt c (by decide)
    have eN := r_mk_17 h.1
    obtain ⟨r, M', k, z⟩ := hH N n (gr + 1) x4 x5 x6 x7 h hq.1 (by omega) ⟨by omega, hg.2⟩ hgn
    refine ⟨r, M', ?_, z⟩
    rw [E_V_eq]
    show e_tv E_C (E_V 186) e_t186_195 [192, p, n, gr, x4, x5, x6, x7] N = _
    unfold e_t186_195
    simp [e_tv, e_ev, e_sv, e_b1, e_b2, x_o1, x_o2, w1, ks, c, k]
  · obtain ⟨h1, h2, h3, h4⟩ := h
    have v1 : e_w (28 * p) = 28 * p := a_w_id (by omega) (by omega)
    have v2 : e_w (28 * p + 2) = 28 * p + 2 := a_w_id (by omega) (by omega)
    have v3 : e_w (28 * p + 19) = 28 * p + 19 := a_w_id (by omega) (by omega)
    obtain ⟨z, hz⟩ : ∃ z : Int, z = if gr + 1 < 8 then gr + 1 else 8 := ⟨_, rfl⟩
    have hzr : 0 ≤ z ∧ z ≤ 8 := by
      rcases x_lt (gr + 1) 8 with ⟨e, e_n⟩ | ⟨e, e_n⟩
      · rw [if_pos e] at hz; omega
      · rw [if_neg e] at hz; omega
    have kl : ∀ M, E_C 174 [gr + 1, 8] M = some (z, M) := fun M => by rw [r_lesser, hz]
    have s1 := r_stw (i := 28 * p + 2) (v := n) (M := N) (by omega) (by omega)
    have s2 := fun M => r_stw (i := 28 * p + 19) (v := z) (M := M) (by omega) (by omega)
    have g1 := r_mk_w (i := 28 * p + 2) (v := n) h1 hp.1 (by omega) (fun e => absurd e (by decide)) (fun e => absurd e (by decide)) ⟨by omega, by omega⟩
    have g2 := r_mk_w (i := 28 * p + 19) (v := z) g1 hp.1 (by omega) (fun e => absurd e (by decide)) (fun e => absurd e (by decide)) ⟨by omega, by omega⟩
    have o2 : r_G (e_up (e_up N 193 (28 * p + 2).toNat n) 193 (28 * p + 19).toNat z) (28 * p + 2) = n := (r_G_n (by omega) (by omega)).trans r_G_s
    have o19 : r_G (e_up (e_up N 193 (28 * p + 2).toNat n) 193 (28 * p + 19).toNat z) (28 * p + 19) = z := r_G_s
    refine ⟨x4, _, ?_, g2, ?_, ?_, h3, fun h5 => ⟨hp.1, by omega, g2.2.2.2.2.1, by rw [o2]; exact h2.1, by rw [o2]; exact h2.2, by rw [o19]; exact hzr.1, by rw [o19]; exact hzr.2, fun k k0 k1 => ?_⟩⟩
    · rw [E_V_eq]
      show e_tv E_C (E_V 186) e_t186_195 [192, p, n, gr, x4, x5, x6, x7] N = _
      unfold e_t186_195
      simp [e_tv, e_ev, e_sv, e_b1, e_b2, x_o1, x_o2, r_O0, w1, ks, c, v1, v2, v3, s1, kl, s2]
    · rw [r_n192, r_n192]; exact hq.1
    · rw [r_n192, r_n192]; omega
    · rw [o2] at k1
      rw [show r_G (e_up (e_up N 193 (28 * p + 2).toNat n) 193 (28 * p + 19).toNat z) (28 * p + 3 + k) = r_G N (28 * p + 3 + k) from (r_G_n (by omega) (by omega)).trans (r_G_n (by omega) (by omega))]
      exact r_mk_cl g2 (h4 h5 k k0 k1)
theorem r_mr_166 {n gr x4 x5 x6 x7 : Int} {N : EM} (hp : 0 ≤ p ∧ p < 40) (hb : r_bl M0) (hH : r_RH p a g0 M0) (h : r_RI p g0 M0 n x4 N) (hx5 : x5 = 0 ∨ x5 = 1) (hq : a < N 192 15 ∧ 0 ≤ N 192 15 ∧ N 192 15 ≤ 125) (hg : 0 ≤ gr ∧ gr + 1 ≤ N 192 15) (hgn : x4 = 1 → gr + 1 ≤ n) : r_MR p a g0 M0 (E_V 186 166 [192, p, n, gr, x4, x5, x6, x7] N) := by
  have h' := h
  obtain ⟨h1, h2, h3, h4⟩ := h'
  rcases h3 with h3 | h3
  · obtain ⟨r, M', k, z⟩ := r_mr_195 (x5 := x5) (x6 := x6) (x7 := x7) hp hb hH h hq hg hgn
    refine ⟨r, M', ?_, z⟩
    rw [E_V_eq]
    show e_tv E_C (E_V 186) e_t186_166 [192, p, n, gr, x4, x5, x6, x7] N = _
    unfold e_t186_166
    subst h3
    simp [e_tv, e_ev, e_sv, e_b1, e_b2, x_o1, x_o2, k]
  · have hgn' := hgn h3
    have v1 : e_w (28 * p) = 28 * p := a_w_id (by omega) (by omega)
    have v2 : e_w (28 * p + 20) = 28 * p + 20 := a_w_id (by omega) (by omega)
    have v3 : e_w (28 * p + 20 + gr) = 28 * p + 20 + gr := a_w_id (by omega) (by omega)
    have s1 := fun v => r_stw (i := 28 * p + 20 + gr) (v := v) (M := N) (by omega) (by omega)
    have hgo : ∀ v : Int, (v = 0 ∨ v = 1) → r_MR p a g0 M0 (E_V 186 195 [192, p, n, gr, x4, x5, x6, x7] (e_up N 193 (28 * p + 20 + gr).toNat v)) := fun v hv => r_mr_195 hp hb hH (r_RI_w h hp.1 (Or.inl ⟨by omega, by omega⟩) ⟨by omega, by omega⟩) (by rw [r_n192]; exact hq) (by rw [r_n192]; exact hg) hgn
    rcases hx5 with hx | hx
    · obtain ⟨r, M', k, z⟩ := hgo 0 (Or.inl rfl)
      refine ⟨r, M', ?_, z⟩
      subst hx
      subst h3
      rw [E_V_eq]
      show e_tv E_C (E_V 186) e_t186_166 [192, p, n, gr, 1, 0, x6, x7] N = _
      unfold e_t186_166
      simp [e_tv, e_ev, e_sv, e_b1, e_b2, x_o1, x_o2, r_O0, v1, v2, v3, s1, k]
    · obtain ⟨r, M', k, z⟩ := hgo 1 (Or.inr rfl)
      refine ⟨r, M', ?_, z⟩
      subst hx
      subst h3
      rw [E_V_eq]
      show e_tv E_C (E_V 186) e_t186_166 [192, p, n, gr, 1, 1, x6, x7] N = _
      unfold e_t186_166
      simp [e_tv, e_ev, e_sv, e_b1, e_b2, x_o1, x_o2, r_O0, v1, v2, v3, s1, k]
theorem r_mr_out {n gr x4 x5 x7 : Int} {N : EM} (hp : 0 ≤ p ∧ p < 40) (hb : r_bl M0) (hH : r_RH p a g0 M0) (h : r_RI p g0 M0 n x4 N) (hx5 : x5 = 0 ∨ x5 = 1) (hq : a < N 192 15 ∧ 0 ≤ N 192 15 ∧ N 192 15 ≤ 124) (hg : 0 ≤ gr ∧ gr + 1 ≤ N 192 15) (hgn : x4 = 1 → gr + 1 ≤ n) : r_MR p a g0 M0 (E_V 186 28 [192, p, n, gr, x4, x5, 0, x7] N) := by
  rcases hx5 with hx | hx
  · obtain ⟨r, M', k, z⟩ := r_mr_166 (x5 := x5) (x6 := 0) (x7 := x7) hp hb hH h (Or.inl hx) ⟨hq.1, hq.2.1, by omega⟩ hg hgn
    refine ⟨r, M', ?_, z⟩
    subst hx
    rw [E_V_eq]
    show e_tv E_C (E_V 186) e_t186_28 [192, p, n, gr, x4, 0, 0, x7] N = _
    unfold e_t186_28
    simp [e_tv, e_ev, e_sv, e_b1, e_b2, x_o1, x_o2, k]
  · have w1 : e_w (N 192 15 + 1) = N 192 15 + 1 := a_w_id (by omega) (by omega)
    have q1 : (e_up N 192 15 (N 192 15 + 1)) 192 15 = N 192 15 + 1 := c_up_s
    obtain ⟨r, M', k, z⟩ := r_mr_166 (x5 := x5) (x6 := 0) (x7 := x7) hp hb hH (r_RI_p (v := N 192 15 + 1) h ⟨by omega, by omega⟩) (Or.inr hx) (by rw [q1]; omega) (by rw [q1]; omega) hgn
    refine ⟨r, M', ?_, z⟩
    subst hx
    rw [E_V_eq]
    show e_tv E_C (E_V 186) e_t186_28 [192, p, n, gr, x4, 1, 0, x7] N = _
    unfold e_t186_28
    simp [e_tv, e_ev, e_sv, e_b1, e_b2, x_o1, x_o2, r_F15, r_P15, w1, k]
end RROW
