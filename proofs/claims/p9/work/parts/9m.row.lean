/-! a ROW -/
def r_MR (p a : Int) (g0 : Int → Int) (M0 : EM) (o : EO) : Prop := ∃ r M', o = some (r, M') ∧ r_mk p 1 g0 M0 M' ∧ a < M' 192 15 ∧ M' 192 15 ≤ 130 ∧ (r = 0 ∨ r = 1) ∧ (r = 1 → r_rw (r_G M') (p + 1) p)
/-- n members so far -/
def r_RI (p : Int) (g0 : Int → Int) (M0 : EM) (n x4 : Int) (N : EM) : Prop := r_mk p 1 g0 M0 N ∧ (0 ≤ n ∧ n ≤ 8) ∧ (x4 = 0 ∨ x4 = 1) ∧ (x4 = 1 → ∀ k, 0 ≤ k → k < n → r_cl g0 p (r_G N (28 * p + 3 + k)))
/-- what goes on from a ROW's next ITEM -/
def r_RH (p a : Int) (g0 : Int → Int) (M0 : EM) : Prop := ∀ N n gr x4 x5 x6 x7, r_RI p g0 M0 n x4 N → a < N 192 15 → N 192 15 < M0 192 17 → (0 ≤ gr ∧ gr ≤ N 192 15) → (x4 = 1 → gr ≤ n) → r_MR p a g0 M0 (E_V 186 7 [192, p, n, gr, x4, x5, x6, x7] N)
section RROW
variable {p a : Int} {g0 : Int → Int} {M0 : EM}
theorem r_RI_w {n x4 i v : Int} {N : EM} (h : r_RI p g0 M0 n x4 N) (hp : 0 ≤ p) (hi : 28 * p + 11 ≤ i ∧ i < 28 * p + 28 ∨ i = 28 * p + 2) (hv : -2147483648 ≤ v ∧ v ≤ 2147483647) : r_RI p g0 M0 n x4 (e_up N 193 i.toNat v) := by
  obtain ⟨a1, a2, a3, a4⟩ := h
  refine ⟨r_mk_w a1 hp (by omega) (fun e => absurd e (by decide)) (fun e => absurd e (by decide)) hv, a2, a3, fun h k k0 k1 => ?_⟩
  rw [r_G_n (by omega) (by omega)]
  exact a4 h k k0 k1
theorem r_RI_p {n x4 v : Int} {N : EM} (h : r_RI p g0 M0 n x4 N) (hv : -2147483648 ≤ v ∧ v ≤ 2147483647) : r_RI p g0 M0 n x4 (e_up N 192 15 v) := by
  obtain ⟨a1, a2, a3, a4⟩ := h
  refine ⟨r_mk_p a1 hv, a2, a3, ?_⟩
  rw [r_up_Gne (by decide)]
  exact a4
theorem r_RI_t {n x4 : Int} {N N' : EM} (h : r_RI p g0 M0 n x4 N) (t : r_tt N N') : r_RI p g0 M0 n x4 N' := by
  obtain ⟨a1, a2, a3, a4⟩ := h
  have eG : r_G N' = r_G N := funext fun i => t.2.1 _ _ (by omega)
  exact ⟨r_mk_t a1 t, a2, a3, by rw [eG]; exact a4⟩
theorem r_mr_195 {n gr x4 x5 x6 x7 : Int} {N : EM} (hp : 0 ≤ p ∧ p < 40) (hb : r_bl M0) (hH : r_RH p a g0 M0) (h : r_RI p g0 M0 n x4 N) (hq : a < N 192 15 ∧ 0 ≤ N 192 15 ∧ N 192 15 ≤ 125) (hg : 0 ≤ gr ∧ gr + 1 ≤ N 192 15) (hgn : x4 = 1 → gr + 1 ≤ n) : r_MR p a g0 M0 (E_V 186 195 [192, p, n, gr, x4, x5, x6, x7] N) := by
  have TN := r_mk_ty h.1 hb ⟨by omega, by omega⟩
  have ks := r_sign TN
  have w1 : e_w (gr + 1) = gr + 1 := a_w_id (by omega) (by omega)
  by_cases c : r_sg N = 32
  · have hl := r_sg_lt c (by decide)
    have eN := r_mk_17 h.1
    obtain ⟨r, M', k, z⟩ := hH N n (gr + 1) x4 x5 x6 x7 h hq.1 (by omega) ⟨by omega, hg.2⟩ hgn
    refine ⟨r, M', ?_, z⟩
    rw [E_V_eq]
    show e_tv E_C (E_V 186) e_t186_195 [192, p, n, gr, x4, x5, x6, x7] N = _
    unfold e_t186_195
    simp [e_tv, e_ev, e_sv, e_b1, e_b2, x_o1, x_o2, w1, ks, c, k]
  · obtain ⟨h1, h2, h3, h4⟩ := h
    have v1 : e_w (28 * p) = 28 * p := a_w_id (by omega) (by omega)
    have v2 : e_w (28 * p + 2) = 28 * p + 2 := a_w_id (by omega) (by omega)
    have v3 : e_w (28 * p + 19) = 28 * p + 19 := a_w_id (by omega) (by omega)
    obtain ⟨z, hz⟩ : ∃ z : Int, z = if gr + 1 < 8 then gr + 1 else 8 := ⟨_, rfl⟩
    have hzr : 0 ≤ z ∧ z ≤ 8 := by
      rcases x_lt (gr + 1) 8 with ⟨e, e_n⟩ | ⟨e, e_n⟩
      · rw [if_pos e] at hz; omega
      · rw [if_neg e] at hz; omega
    have kl : ∀ M, E_C 174 [gr + 1, 8] M = some (z, M) := fun M => by rw [r_lesser, hz]
    have s1 := r_stw (i := 28 * p + 2) (v := n) (M := N) (by omega) (by omega)
    have s2 := fun M => r_stw (i := 28 * p + 19) (v := z) (M := M) (by omega) (by omega)
    have g1 := r_mk_w (i := 28 * p + 2) (v := n) h1 hp.1 (by omega) (fun e => absurd e (by decide)) (fun e => absurd e (by decide)) ⟨by omega, by omega⟩
    have g2 := r_mk_w (i := 28 * p + 19) (v := z) g1 hp.1 (by omega) (fun e => absurd e (by decide)) (fun e => absurd e (by decide)) ⟨by omega, by omega⟩
    have o2 : r_G (e_up (e_up N 193 (28 * p + 2).toNat n) 193 (28 * p + 19).toNat z) (28 * p + 2) = n := (r_G_n (by omega) (by omega)).trans r_G_s
    have o19 : r_G (e_up (e_up N 193 (28 * p + 2).toNat n) 193 (28 * p + 19).toNat z) (28 * p + 19) = z := r_G_s
    refine ⟨x4, _, ?_, g2, ?_, ?_, h3, fun h5 => ⟨hp.1, by omega, g2.2.2.2.2.1, by rw [o2]; exact h2.1, by rw [o2]; exact h2.2, by rw [o19]; exact hzr.1, by rw [o19]; exact hzr.2, fun k k0 k1 => ?_⟩⟩
    · rw [E_V_eq]
      show e_tv E_C (E_V 186) e_t186_195 [192, p, n, gr, x4, x5, x6, x7] N = _
      unfold e_t186_195
      simp [e_tv, e_ev, e_sv, e_b1, e_b2, x_o1, x_o2, r_O0, w1, ks, c, v1, v2, v3, s1, kl, s2]
    · rw [r_n192, r_n192]; exact hq.1
    · rw [r_n192, r_n192]; omega
    · rw [o2] at k1
      rw [show r_G (e_up (e_up N 193 (28 * p + 2).toNat n) 193 (28 * p + 19).toNat z) (28 * p + 3 + k) = r_G N (28 * p + 3 + k) from (r_G_n (by omega) (by omega)).trans (r_G_n (by omega) (by omega))]
      exact r_mk_cl g2 (h4 h5 k k0 k1)
theorem r_mr_166 {n gr x4 x5 x6 x7 : Int} {N : EM} (hp : 0 ≤ p ∧ p < 40) (hb : r_bl M0) (hH : r_RH p a g0 M0) (h : r_RI p g0 M0 n x4 N) (hx5 : x5 = 0 ∨ x5 = 1) (hq : a < N 192 15 ∧ 0 ≤ N 192 15 ∧ N 192 15 ≤ 125) (hg : 0 ≤ gr ∧ gr + 1 ≤ N 192 15) (hgn : x4 = 1 → gr + 1 ≤ n) : r_MR p a g0 M0 (E_V 186 166 [192, p, n, gr, x4, x5, x6, x7] N) := by
  have h' := h
  obtain ⟨h1, h2, h3, h4⟩ := h'
  rcases h3 with h3 | h3
  · obtain ⟨r, M', k, z⟩ := r_mr_195 (x5 := x5) (x6 := x6) (x7 := x7) hp hb hH h hq hg hgn
    refine ⟨r, M', ?_, z⟩
    rw [E_V_eq]
    show e_tv E_C (E_V 186) e_t186_166 [192, p, n, gr, x4, x5, x6, x7] N = _
    unfold e_t186_166
    subst h3
    simp [e_tv, e_ev, e_sv, e_b1, e_b2, x_o1, x_o2, k]
  · have hgn' := hgn h3
    have v1 : e_w (28 * p) = 28 * p := a_w_id (by omega) (by omega)
    have v2 : e_w (28 * p + 20) = 28 * p + 20 := a_w_id (by omega) (by omega)
    have v3 : e_w (28 * p + 20 + gr) = 28 * p + 20 + gr := a_w_id (by omega) (by omega)
    have s1 := fun v => r_stw (i := 28 * p + 20 + gr) (v := v) (M := N) (by omega) (by omega)
    have hgo : ∀ v : Int, (v = 0 ∨ v = 1) → r_MR p a g0 M0 (E_V 186 195 [192, p, n, gr, x4, x5, x6, x7] (e_up N 193 (28 * p + 20 + gr).toNat v)) := fun v hv => r_mr_195 hp hb hH (r_RI_w h hp.1 (Or.inl ⟨by omega, by omega⟩) ⟨by omega, by omega⟩) (by rw [r_n192]; exact hq) (by rw [r_n192]; exact hg) hgn
    rcases hx5 with hx | hx
    · obtain ⟨r, M', k, z⟩ := hgo 0 (Or.inl rfl)
      refine ⟨r, M', ?_, z⟩
      subst hx
      subst h3
      rw [E_V_eq]
      show e_tv E_C (E_V 186) e_t186_166 [192, p, n, gr, 1, 0, x6, x7] N = _
      unfold e_t186_166
      simp [e_tv, e_ev, e_sv, e_b1, e_b2, x_o1, x_o2, r_O0, v1, v2, v3, s1, k]
    · obtain ⟨r, M', k, z⟩ := hgo 1 (Or.inr rfl)
      refine ⟨r, M', ?_, z⟩
      subst hx
      subst h3
      rw [E_V_eq]
      show e_tv E_C (E_V 186) e_t186_166 [192, p, n, gr, 1, 1, x6, x7] N = _
      unfold e_t186_166
      simp [e_tv, e_ev, e_sv, e_b1, e_b2, x_o1, x_o2, r_O0, v1, v2, v3, s1, k]
theorem r_mr_out {n gr x4 x5 x7 : Int} {N : EM} (hp : 0 ≤ p ∧ p < 40) (hb : r_bl M0) (hH : r_RH p a g0 M0) (h : r_RI p g0 M0 n x4 N) (hx5 : x5 = 0 ∨ x5 = 1) (hq : a < N 192 15 ∧ 0 ≤ N 192 15 ∧ N 192 15 ≤ 124) (hg : 0 ≤ gr ∧ gr + 1 ≤ N 192 15) (hgn : x4 = 1 → gr + 1 ≤ n) : r_MR p a g0 M0 (E_V 186 28 [192, p, n, gr, x4, x5, 0, x7] N) := by
  rcases hx5 with hx | hx
  · obtain ⟨r, M', k, z⟩ := r_mr_166 (x5 := x5) (x6 := 0) (x7 := x7) hp hb hH h (Or.inl hx) ⟨hq.1, hq.2.1, by omega⟩ hg hgn
    refine ⟨r, M', ?_, z⟩
    subst hx
    rw [E_V_eq]
    show e_tv E_C (E_V 186) e_t186_28 [192, p, n, gr, x4, 0, 0, x7] N = _
    unfold e_t186_28
    simp [e_tv, e_ev, e_sv, e_b1, e_b2, x_o1, x_o2, k]
  · have w1 : e_w (N 192 15 + 1) = N 192 15 + 1 := a_w_id (by omega) (by omega)
    have q1 : (e_up N 192 15 (N 192 15 + 1)) 192 15 = N 192 15 + 1 := c_up_s
    obtain ⟨r, M', k, z⟩ := r_mr_166 (x5 := x5) (x6 := 0) (x7 := x7) hp hb hH (r_RI_p (v := N 192 15 + 1) h ⟨by omega, by omega⟩) (Or.inr hx) (by rw [q1]; omega) (by rw [q1]; omega) hgn
    refine ⟨r, M', ?_, z⟩
    subst hx
    rw [E_V_eq]
    show e_tv E_C (E_V 186) e_t186_28 [192, p, n, gr, x4, 1, 0, x7] N = _
    unfold e_t186_28
    simp [e_tv, e_ev, e_sv, e_b1, e_b2, x_o1, x_o2, r_F15, r_P15, w1, k]
theorem r_mr_step {n gr x4 x5 x7 : Int} {N : EM} (hp : 0 ≤ p ∧ p < 40) (hW : r_W g0) (hpc : g0 1198 = p) (hb : r_bl M0) (hH : r_RH p a g0 M0) (h : r_RI p g0 M0 n x4 N) (hx5 : x5 = 0 ∨ x5 = 1) (hq : a < N 192 15 ∧ 0 ≤ N 192 15 ∧ N 192 15 ≤ 122) (hg : 0 ≤ gr ∧ gr + 1 ≤ N 192 15) (hgn : x4 = 1 → gr ≤ n) (H : ∀ N1 n x4 x7, r_RI p g0 M0 n x4 N1 → N 192 15 < N1 192 15 → N1 192 15 ≤ M0 192 17 → (x4 = 1 → gr ≤ n) → r_MR p a g0 M0 (E_V 186 28 [192, p, n, gr, x4, x5, 1, x7] N1)) : r_MR p a g0 M0 (E_V 186 28 [192, p, n, gr, x4, x5, 1, x7] N) := by
  have hb' := hb
  obtain ⟨b1, b2, b3⟩ := hb'
  have TN := r_mk_ty h.1 hb ⟨by omega, by omega⟩
  have e17 := r_mk_17 h.1
  obtain ⟨r2, M2, k2, t2, -, -⟩ := r_rNum TN
  have h2 := r_RI_t h t2
  have l2 := t2.2.2.1
  have u2 := t2.2.2.2.1
  have hq2 : N 192 15 ≤ M2 192 15 ∧ M2 192 15 ≤ 122 := by omega
  obtain ⟨n0, n99⟩ := h2.1.2.2.2.2.2.2.2
  -- behind a number
  have tail : ∀ N1 y2 y4, r_RI p g0 M0 y2 y4 N1 → N1 192 15 = M2 192 15 → (y4 = 1 → gr + 1 ≤ y2) → r_MR p a g0 M0 (E_V 186 127 [192, p, y2, gr, y4, x5, 1, r2] N1) := by
    intro N1 y2 y4 hR h15 hgy
    have T1 := r_mk_ty hR.1 hb ⟨by omega, by omega⟩
    rcases hx5 with hx | hx
    · obtain ⟨r, M', k, z⟩ := r_mr_out (x5 := x5) (x7 := r2) hp hb hH hR (Or.inl hx) (by omega) (by omega) hgy
      refine ⟨r, M', ?_, z⟩
      subst hx
      rw [E_V_eq]
      show e_tv E_C (E_V 186) e_t186_127 [192, p, y2, gr, y4, 0, 1, r2] N1 = _
      unfold e_t186_127
      simp [e_tv, e_ev, e_sv, e_b1, e_b2, x_o1, x_o2, k]
    · obtain ⟨s, M3, k3, t3, h3, g3⟩ := r_takesT (c := 32) T1 (by decide)
      have hR3 := r_RI_t hR t3
      have l3 := t3.2.2.1
      have u3 := t3.2.2.2.1
      have e18 := r_mk_17 hR.1
      rcases h3 with h3 | h3
      · obtain ⟨r, M', k, z⟩ := r_mr_out (x5 := x5) (x7 := r2) hp hb hH hR3 (Or.inr hx) (by omega) (by omega) hgy
        refine ⟨r, M', ?_, z⟩
        subst hx
        subst h3
        rw [E_V_eq]
        show e_tv E_C (E_V 186) e_t186_127 [192, p, y2, gr, y4, 1, 1, r2] N1 = _
        unfold e_t186_127
        simp [e_tv, e_ev, e_sv, e_b1, e_b2, x_o1, x_o2, k3, k]
      · have g4 := g3 h3
        obtain ⟨r, M', k, z⟩ := H M3 y2 y4 r2 hR3 (by omega) (by omega) (fun e => by have := hgy e; omega)
        refine ⟨r, M', ?_, z⟩
        subst hx
        subst h3
        rw [E_V_eq]
        show e_tv E_C (E_V 186) e_t186_127 [192, p, y2, gr, y4, 1, 1, r2] N1 = _
        unfold e_t186_127
        simp [e_tv, e_ev, e_sv, e_b1, e_b2, x_o1, x_o2, k3, k]
  have h3 := h2
  obtain ⟨a1, a2, a3, a4⟩ := h3
  rcases a3 with c0 | c0
  · obtain ⟨r, M', k, z⟩ := tail M2 n 0 ⟨a1, a2, Or.inl rfl, fun e => absurd e (by decide)⟩ rfl (fun e => absurd e (by decide))
    refine ⟨r, M', ?_, z⟩
    subst c0
    rw [E_V_eq]
    show e_tv E_C (E_V 186) e_t186_28 [192, p, n, gr, 0, x5, 1, x7] N = _
    unfold e_t186_28
    simp [e_tv, e_ev, e_sv, e_b1, e_b2, x_o1, x_o2, r_F18, k2, k]
  · rcases x_lt n 8 with ⟨c1, c1_n⟩ | ⟨c1, c1_n⟩
    · obtain ⟨s, ks, hs, hs1⟩ := r_mayCome (ks := 1) (M := M2) n0 (p := p) (by omega)
      rcases hs with hs | hs
      · subst hs
        obtain ⟨r, M', k, z⟩ := tail M2 n 0 ⟨a1, a2, Or.inl rfl, fun e => absurd e (by decide)⟩ rfl (fun e => absurd e (by decide))
        refine ⟨r, M', ?_, z⟩
        subst c0
        rw [E_V_eq]
        show e_tv E_C (E_V 186) e_t186_28 [192, p, n, gr, 1, x5, 1, x7] N = _
        unfold e_t186_28
        simp [e_tv, e_ev, e_sv, e_b1, e_b2, x_o1, x_o2, r_F18, k2, c1, c1_n, ks, k]
      · subst hs
        obtain ⟨hq0, hbit⟩ := hs1 rfl
        have hK := r_W_kind hW (q := M2 192 18) ⟨n0, by rw [hpc]; exact hq0⟩
        rw [hpc] at hK
        obtain ⟨K0, K1, -, -⟩ := hK
        have eK : r_G M2 (28 * M2 192 18) = g0 (28 * M2 192 18) := a1.2.2.1 _ (by omega) (by omega) (by omega)
        rw [eK] at hbit
        have hmemq : r_cl g0 p (M2 192 18) := K1 ((r_bits K0).1 hbit)
        have v1 : e_w (28 * p) = 28 * p := a_w_id (by omega) (by omega)
        have v2 : e_w (28 * p + 3) = 28 * p + 3 := a_w_id (by omega) (by omega)
        have v3 : e_w (28 * p + 3 + n) = 28 * p + 3 + n := a_w_id (by omega) (by omega)
        have v4 : e_w (28 * M2 192 18) = 28 * M2 192 18 := a_w_id (by omega) (by omega)
        have v5 : e_w (28 * M2 192 18 + 1) = 28 * M2 192 18 + 1 := a_w_id (by omega) (by omega)
        have v6 : e_w (n + 1) = n + 1 := a_w_id (by omega) (by omega)
        have v7 : e_w (p + 1) = p + 1 := a_w_id (by omega) (by omega)
        have v8 : e_w (28 * p + 11) = 28 * p + 11 := a_w_id (by omega) (by omega)
        have v9 : e_w (28 * p + 11 + n) = 28 * p + 11 + n := a_w_id (by omega) (by omega)
        have s1 := fun v => r_stw (i := 28 * p + 3 + n) (v := v) (M := M2) (by omega) (by omega)
        have s2 := fun v M => r_stw (i := 28 * p + 11 + n) (v := v) (M := M) (by omega) (by omega)
        have s3 := fun v M => r_stw (i := 28 * M2 192 18 + 1) (v := v) (M := M) (by omega) (by omega)
        have hgn' := hgn c0
        have h5 := r_mk_w (i := 28 * p + 3 + n) (v := M2 192 18) a1 hp.1 (by omega) (fun e => absurd e (by decide)) (fun e => absurd e (by decide)) ⟨by omega, by omega⟩
        have h6 := r_mk_w (i := 28 * p + 11 + n) (v := gr) h5 hp.1 (by omega) (fun e => absurd e (by decide)) (fun e => absurd e (by decide)) ⟨by omega, by omega⟩
        have h7 := r_mk_o (q := M2 192 18) (v := p + 1) h6 ⟨n0, hq0⟩ ⟨by omega, by omega⟩
        obtain ⟨r, M', k, z⟩ := tail _ (n + 1) 1 ⟨h7, ⟨by omega, by omega⟩, Or.inr rfl, fun _ k k0 k1 => by
          rw [r_G_n (by omega) (by omega), r_G_n (by omega) (by omega)]
          by_cases hkn : k = n
          · subst hkn
            rw [r_G_s]
            exact hmemq
          · rw [r_G_n (by omega) (by omega)]
            exact a4 c0 k k0 (by omega)⟩ (r_n192.trans (r_n192.trans r_n192)) (fun _ => by omega)
        refine ⟨r, M', ?_, z⟩
        subst c0
        rw [E_V_eq]
        show e_tv E_C (E_V 186) e_t186_28 [192, p, n, gr, 1, x5, 1, x7] N = _
        unfold e_t186_28
        simp [e_tv, e_ev, e_sv, e_b1, e_b2, x_o1, x_o2, r_O0, r_F18, r_n192, k2, c1, c1_n, ks, v1, v2, v3, v4, v5, v6, v7, v8, v9, s1, s2, s3, k]
    · obtain ⟨r, M', k, z⟩ := tail M2 n 0 ⟨a1, a2, Or.inl rfl, fun e => absurd e (by decide)⟩ rfl (fun e => absurd e (by decide))
      refine ⟨r, M', ?_, z⟩
      subst c0
      rw [E_V_eq]
      show e_tv E_C (E_V 186) e_t186_28 [192, p, n, gr, 1, x5, 1, x7] N = _
      unfold e_t186_28
      simp [e_tv, e_ev, e_sv, e_b1, e_b2, x_o1, x_o2, r_F18, k2, c1, c1_n, k]
theorem r_mr_in {gr x5 : Int} (hp : 0 ≤ p ∧ p < 40) (hW : r_W g0) (hpc : g0 1198 = p) (hb : r_bl M0) (hH : r_RH p a g0 M0) (hx5 : x5 = 0 ∨ x5 = 1) (hg0 : 0 ≤ gr) : ∀ (m : Nat) (n x4 x7 : Int) (N : EM), r_RI p g0 M0 n x4 N → (M0 192 17 - N 192 15).toNat ≤ m → (a < N 192 15 ∧ 0 ≤ N 192 15 ∧ N 192 15 ≤ 122) → gr + 1 ≤ N 192 15 → (x4 = 1 → gr ≤ n) → r_MR p a g0 M0 (E_V 186 28 [192, p, n, gr, x4, x5, 1, x7] N) := by
  have hb3 := hb.2.2
  intro m
  induction m with
  | zero =>
    intro n x4 x7 N h hm hq hg hgn
    exact r_mr_step hp hW hpc hb hH h hx5 hq ⟨hg0, hg⟩ hgn (fun N1 n x4 x7 h1 h2 h3 h4 => by omega)
  | succ m ih =>
    intro n x4 x7 N h hm hq hg hgn
    exact r_mr_step hp hW hpc hb hH h hx5 hq ⟨hg0, hg⟩ hgn (fun N1 n x4 x7 h1 h2 h3 h4 => ih n x4 x7 N1 h1 (by omega) ⟨by omega, by omega, by omega⟩ (by omega) h4)
theorem r_mr_item {n gr x4 x5 x6 x7 : Int} {N : EM} (hp : 0 ≤ p ∧ p < 40) (hW : r_W g0) (hpc : g0 1198 = p) (hb : r_bl M0) (hH : r_RH p (N 192 15) g0 M0) (h : r_RI p g0 M0 n x4 N) (hq : 0 ≤ N 192 15 ∧ N 192 15 ≤ 120) (hg : 0 ≤ gr ∧ gr ≤ N 192 15) (hgn : x4 = 1 → gr ≤ n) : r_MR p (N 192 15) g0 M0 (E_V 186 7 [192, p, n, gr, x4, x5, x6, x7] N) := by
  have hb3 := hb.2.2
  have w1 : e_w (N 192 15 + 1) = N 192 15 + 1 := a_w_id (by omega) (by omega)
  have q1 : (e_up N 192 15 (N 192 15 + 1)) 192 15 = N 192 15 + 1 := c_up_s
  have h1 := r_RI_p (v := N 192 15 + 1) h ⟨by omega, by omega⟩
  generalize hM1 : e_up N 192 15 (N 192 15 + 1) = M1 at q1 h1
  have T1 := r_mk_ty h1.1 hb ⟨by omega, by omega⟩
  obtain ⟨s, M2, k2, t2, hs, hs1⟩ := r_takesT (c := 91) T1 (by decide)
  have h2 := r_RI_t h1 t2
  have l2 := t2.2.2.1
  have u2 := t2.2.2.2.1
  have e17 := r_mk_17 h1.1
  obtain ⟨r, M', k, z⟩ := r_mr_in (x5 := s) hp hW hpc hb hH hs hg.1 _ n x4 x7 M2 h2 (Nat.le_refl _) (by omega) (by omega) hgn
  refine ⟨r, M', ?_, z⟩
  rw [E_V_eq]
  show e_tv E_C (E_V 186) e_t186_7 [192, p, n, gr, x4, x5, x6, x7] N = _
  unfold e_t186_7
  simp [e_tv, e_ev, e_sv, e_b1, e_b2, x_o1, x_o2, r_F15, r_P15, w1, hM1, k2, k]
theorem r_MR_up {a b : Int} {o : EO} (h : r_MR p b g0 M0 o) (hab : a ≤ b) : r_MR p a g0 M0 o := by
  obtain ⟨r, M', k, z1, z2, z3⟩ := h
  exact ⟨r, M', k, z1, by omega, z3⟩
theorem r_mr_all (hp : 0 ≤ p ∧ p < 40) (hW : r_W g0) (hpc : g0 1198 = p) (hb : r_bl M0) : ∀ (m : Nat) (n gr x4 x5 x6 x7 : Int) (N : EM), r_RI p g0 M0 n x4 N → (M0 192 17 - N 192 15).toNat ≤ m → (0 ≤ N 192 15 ∧ N 192 15 ≤ 120) → (0 ≤ gr ∧ gr ≤ N 192 15) → (x4 = 1 → gr ≤ n) → r_MR p (N 192 15) g0 M0 (E_V 186 7 [192, p, n, gr, x4, x5, x6, x7] N) := by
  have hb3 := hb.2.2
  intro m
  induction m with
  | zero =>
    intro n gr x4 x5 x6 x7 N h hm hq hg hgn
    exact r_mr_item hp hW hpc hb (fun N1 n gr x4 x5 x6 x7 h1 h2 h3 h4 h5 => by omega) h hq hg hgn
  | succ m ih =>
    intro n gr x4 x5 x6 x7 N h hm hq hg hgn
    exact r_mr_item hp hW hpc hb (fun N1 n gr x4 x5 x6 x7 h1 h2 h3 h4 h5 => r_MR_up (ih n gr x4 x5 x6 x7 N1 h1 (by omega) ⟨by omega, by omega⟩ h4 h5) (by omega)) h hq hg hgn
theorem r_makesRow {M : EM} (hp : 0 ≤ p ∧ p < 40) (hW : r_W g0) (hpc : g0 1198 = p) (hb : r_bl M0) (hk : r_mk p 1 g0 M0 M) (hq : 0 ≤ M 192 15 ∧ M 192 15 ≤ 120) : r_MR p (M 192 15) g0 M0 (E_C 186 [192, p] M) := by
  obtain ⟨r, M', k, z⟩ := r_mr_all hp hW hpc hb _ 0 0 1 0 0 0 M ⟨hk, by decide, Or.inr rfl, fun _ k k0 k1 => by omega⟩ (Nat.le_refl _) hq ⟨by decide, hq.1⟩ (fun _ => by decide)
  refine ⟨r, M', ?_, z⟩
  rw [r_ent (show e_rok 186 [192, p] = true from decide_eq_true r_ref)]
  show e_tv E_C (E_V 186) e_t186_0 [192, p, 0, 0, 0, 0, 0, 0] M = _
  unfold e_t186_0
  simp [e_tv, e_ev, e_sv, e_b1, e_b2, x_o1, x_o2, k]
end RROW
