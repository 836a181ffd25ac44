/-! a STATEMENT made, a TEXT told, by the reference -/
theorem r_pt_far {g g' : Int → Int} {b x : Int} (h : ∀ i, i < 1120 → g' i = g i) (hb : b ≤ 40) (hx : r_pt g b x) : r_pt g' b x := by
  have oth : ∀ x, x < 40 → ∀ j, 0 ≤ j → j < 28 → g' (28 * x + j) = g (28 * x + j) := fun x hx j h1 h2 => h _ (by omega)
  have oth0 : ∀ x, x < 40 → g' (28 * x) = g (28 * x) := fun x hx => h _ (by omega)
  have c1 : ∀ b, b ≤ 40 → ∀ y, r_cl g b y → r_cl g' b y := by
    intro b hb y hy
    have hx : y < 40 := by have := hy.2.1; omega
    exact r_cl_eq (oth0 y hx) (oth y hx 2 (by decide) (by decide)) (r_lies_eq (fun j j0 j1 => oth y hx j (by omega) (by omega))) hy
  have c2 : ∀ b, b ≤ 40 → ∀ y, r_rw g b y → r_rw g' b y := by
    intro b hb y hy
    have hx : y < 40 := by have := hy.2.1; omega
    exact r_rw_eq (fun j j0 j1 _ => oth y hx j j0 j1) (c1 y (by omega)) hy
  have c3 : ∀ b, b ≤ 40 → ∀ y, r_fd g b y → r_fd g' b y := by
    intro b hb y hy
    have hx : y < 40 := by have := hy.2.1; omega
    exact r_fd_eq (fun j j0 j1 _ => oth y hx j j0 j1) (c1 y (by omega)) (c2 y (by omega)) hy
  have c4 : ∀ b, b ≤ 40 → ∀ y, r_bx g b y → r_bx g' b y := by
    intro b hb y hy
    have hx : y < 40 := by have := hy.2.1; omega
    exact r_bx_eq (oth0 y hx) (oth y hx 2 (by decide) (by decide)) (oth y hx 3 (by decide) (by decide)) (fun h4 => by rw [oth y hx 4 (by decide) (by decide)]; exact h4) (c1 y (by omega)) (c2 y (by omega)) (c3 y (by omega)) hy
  exact hx.imp (c1 _ hb _) (Or.imp (c2 _ hb _) (Or.imp (c3 _ hb _) (c4 _ hb _)))
theorem r_Z_eq2 {g g' : Int → Int} (hz : r_Z g) (h : ∀ i, 1174 ≤ i → i ≤ 1200 → i ≠ 1198 → g' i = g i) : r_Z g' := by
  obtain ⟨z1, z2, z3, z4, z5⟩ := hz
  refine ⟨by rw [h _ (by decide) (by decide) (by decide)]; exact z1, by rw [h _ (by decide) (by decide) (by decide)]; exact z2, fun k k0 k1 => ?_, by rw [h _ (by decide) (by decide) (by decide)]; exact z4, by rw [h _ (by decide) (by decide) (by decide)]; exact z5⟩
  rw [h _ (by omega) (by omega) (by omega), h _ (by omega) (by omega) (by omega)]
  exact z3 k k0 k1
/-- what a STATEMENT leaves -/
def r_MK (M0 : EM) (o : EO) : Prop := ∃ r M', o = some (r, M') ∧ a_M M' ∧ (∀ id k, id ≠ 193 → ¬ (id = 192 ∧ (k = 15 ∨ k = 18)) → M' id k = M0 id k) ∧ r_N99 M' ∧ (∀ i, 1120 ≤ i → i ≠ 1198 → r_G M' i = r_G M0 i) ∧ M0 192 15 < M' 192 15 ∧ M' 192 15 ≤ 140 ∧ (r ≠ 0 → r_W (r_G M'))
/-- its end: pos and COUNT one more -/
theorem r_mk_189 {p kd x2 x3 x4 : Int} {M0 N : EM} (hp : 0 ≤ p ∧ p < 40) (hW : r_W (r_G M0)) (hpc : r_G M0 1198 = p) (hk : r_mk p kd (r_G M0) M0 N) (hq : M0 192 15 < N 192 15 ∧ 0 ≤ N 192 15 ∧ N 192 15 ≤ 130) (hx : x4 ≠ 0 → r_pt (r_G N) (p + 1) p) : r_MK M0 (E_V 188 189 [192, p, x2, x3, x4] N) := by
  have hk' := hk
  obtain ⟨a1, a2, a3, a4, a5, a6, a7, a8⟩ := hk'
  have w1 : e_w (N 192 15 + 1) = N 192 15 + 1 := a_w_id (by omega) (by omega)
  have q1 : (e_up N 192 15 (N 192 15 + 1)) 192 15 = N 192 15 + 1 := c_up_s
  have h1 := r_mk_p (v := N 192 15 + 1) hk ⟨by omega, by omega⟩
  have eG1 : r_G (e_up N 192 15 (N 192 15 + 1)) = r_G N := r_up_Gne (by decide)
  generalize hN1 : e_up N 192 15 (N 192 15 + 1) = N1 at q1 h1 eG1
  have e1198 : r_G N1 1198 = p := (h1.2.2.2.1 1198 (by omega)).trans hpc
  have l1 : e_op 60 [193, 1198] N1 = some p := (r_rd (by decide) (by decide)).trans (congrArg some e1198)
  have w2 : e_w (p + 1) = p + 1 := a_w_id (by omega) (by omega)
  have s1 : e_st 100 [193, 1198, p + 1] N1 = some (e_up N1 193 (1198 : Int).toNat (p + 1)) := r_stw (i := 1198) (by decide) (by decide)
  obtain ⟨b1, b2, b3, b4, b5, b6, b7, b8⟩ := h1
  have far : ∀ i, i ≠ 1198 → r_G (e_up N1 193 (1198 : Int).toNat (p + 1)) i = r_G N1 i := fun i hi => r_G_n (by decide) hi
  have near : r_G (e_up N1 193 (1198 : Int).toNat (p + 1)) 1198 = p + 1 := r_G_s
  refine ⟨x4, e_up N1 193 (1198 : Int).toNat (p + 1), ?_, r_upw ⟨by omega, by omega⟩ b1, fun id k h1 h2 => (r_n193 h1).trans (b2 id k h1 h2), ?_, fun i i0 i1 => (far i i1).trans (b4 i (by omega)), ?_, ?_, fun h5 => ?_⟩
  · rw [E_V_eq]
    show e_tv E_C (E_V 188) e_t188_189 [192, p, x2, x3, x4] N = _
    unfold e_t188_189
    simp only [show (1198 : Int).toNat = 1198 from rfl] at s1 ⊢
    simp [e_tv, e_ev, e_sv, e_b1, e_b2, x_o1, x_o2, r_O0, r_F15, r_P15, w1, hN1, l1, w2, s1]
  · unfold r_N99
    rw [r_n193 (by decide)]
    exact b8
  · rw [r_n193 (by decide), q1]; omega
  · rw [r_n193 (by decide), q1]; omega
  · have hh : ∀ i, i < 1120 → r_G (e_up N1 193 (1198 : Int).toNat (p + 1)) i = r_G N i := fun i hi => by rw [far i (by omega), eG1]
    refine ⟨by rw [near]; omega, by rw [near]; omega, fun x x0 x1 => ?_, r_Z_eq2 hW.2.2.2 (fun i i0 i1 e => ?_)⟩
    · rw [near] at x1 ⊢
      by_cases hxp : x = p
      · subst hxp
        exact r_pt_far hh (by omega) (hx h5)
      · have h0 := hW.2.2.1 x x0 (by rw [hpc]; omega)
        rw [hpc] at h0
        have h2 : r_pt (r_G N) p x := by
          rcases h0 with h | h | h | h
          · exact Or.inl (r_mk_cl' hk (Int.le_refl _) h)
          · exact Or.inr (Or.inl (r_mk_rw' hk (Int.le_refl _) h))
          · exact Or.inr (Or.inr (Or.inl (r_mk_fd' hk (Int.le_refl _) h)))
          · exact Or.inr (Or.inr (Or.inr (r_mk_bx' hk (Int.le_refl _) h)))
        exact r_pt_far hh (by omega) (r_pt_up h2 (by omega))
    · exact (far i e).trans (b4 i (by omega))
theorem r_mem_pt {kd p y : Int} {g0 : Int → Int} {M0 N : EM} (hk : r_mk p kd g0 M0 N) (h : r_mem kd g0 p y) : r_cl (r_G N) p y ∨ r_rw (r_G N) p y ∨ (kd = 3 ∧ r_fd (r_G N) p y) := by
  rcases h with h | h | ⟨h0, h⟩
  · exact Or.inl (r_mk_cl' hk (Int.le_refl _) h)
  · exact Or.inr (Or.inl (r_mk_rw' hk (Int.le_refl _) h))
  · exact Or.inr (Or.inr ⟨h0, r_mk_fd' hk (Int.le_refl _) h⟩)
/-- the KIND is chosen -/
theorem r_mk_kind {p x4 : Int} {M0 N : EM} (hp : 0 ≤ p ∧ p < 40) (hW : r_W (r_G M0)) (hpc : r_G M0 1198 = p) (hb : r_bl M0) (hT : r_ty N) (hq0 : N 192 15 = M0 192 15) (hq : 0 ≤ M0 192 15 ∧ M0 192 15 ≤ 120) (hN : ∀ kd : Int, (0 ≤ kd ∧ kd ≤ 3) → r_mk p kd (r_G M0) M0 (e_up N 193 (28 * p).toNat kd)) : r_MK M0 (E_V 188 19 [192, p, 28, 0, x4] N) := by
  have ks := r_sign hT
  have w1 : e_w (28 * p) = 28 * p := a_w_id (by omega) (by omega)
  have st := fun v => r_stw (i := 28 * p) (v := v) (M := N) (by omega) (by omega)
  have n159 : ∀ x2 x3 y4 N1, x3 ≠ 3 → E_V 188 159 [192, p, x2, x3, y4] N1 = E_V 188 189 [192, p, x2, x3, y4] N1 := by
    intro x2 x3 y4 N1 h3
    rw [E_V_eq]
    show e_tv E_C (E_V 188) e_t188_159 [192, p, x2, x3, y4] N1 = _
    unfold e_t188_159
    simp [e_tv, e_ev, e_sv, e_b1, e_b2, x_o1, x_o2, h3]
  by_cases c0 : r_sg N = 99
  · have hk := hN 0 (by decide)
    obtain ⟨r, M1, k1, z1, z2, z3, z4⟩ := r_makesCell hp hb hk (by rw [r_n192, hq0]; exact hq)
    rw [r_n192, hq0] at z2
    have w2 : e_w (28 * p + 15) = 28 * p + 15 := a_w_id (by omega) (by omega)
    have s2 := r_stw (i := 28 * p + 15) (v := 100) (M := M1) (by omega) (by omega)
    have z1' := r_mk_w (i := 28 * p + 15) (v := 100) z1 hp.1 (by omega) (fun _ => by omega) (fun e => absurd e (by decide)) (by decide)
    have hcl : r_cl (r_G (e_up M1 193 (28 * p + 15).toNat 100)) (p + 1) p := r_cl_eq (r_G_n (by omega) (by omega)) (r_G_n (by omega) (by omega)) (r_lies_eq (fun j j0 j1 => r_G_n (by omega) (by omega))) z4
    obtain ⟨r', M', k, t⟩ := r_mk_189 (x2 := 99) (x3 := 0) (x4 := r) hp hW hpc z1' (by rw [r_n192]; omega) (fun _ => Or.inl hcl)
    refine ⟨r', M', ?_, t⟩
    have k159 := (n159 99 0 r (e_up M1 193 (28 * p + 15).toNat 100) (by decide)).trans k
    rw [E_V_eq]
    show e_tv E_C (E_V 188) e_t188_19 [192, p, 28, 0, x4] N = _
    unfold e_t188_19
    rw [c0] at ks
    simp [e_tv, e_ev, e_sv, e_b1, e_b2, x_o1, x_o2, r_O0, ks, w1, st, k1, w2, s2, k159]
  · by_cases c1 : r_sg N = 114
    · have hk := hN 1 (by decide)
      obtain ⟨r, M1, k1, z1, z2, z3, z4, z5⟩ := r_makesRow hp hW hpc hb hk (by rw [r_n192, hq0]; exact hq)
      rw [r_n192, hq0] at z2
      obtain ⟨r', M', k, t⟩ := r_mk_189 (x2 := 114) (x3 := 1) (x4 := r) hp hW hpc z1 (by omega) (fun h => Or.inr (Or.inl (z5 (z4.resolve_left h))))
      refine ⟨r', M', ?_, t⟩
      have k159 := (n159 114 1 r M1 (by decide)).trans k
      rw [E_V_eq]
      show e_tv E_C (E_V 188) e_t188_19 [192, p, 28, 0, x4] N = _
      unfold e_t188_19
      rw [c1] at ks
      simp [e_tv, e_ev, e_sv, e_b1, e_b2, x_o1, x_o2, r_O0, ks, w1, st, k1, k159]
    · by_cases c2 : r_sg N = 102
      · have hk := hN 2 (by decide)
        obtain ⟨r, M1, k1, z1, z2, z3, z4, z5⟩ := r_makesOver hp.2 hW hpc hb (Or.inl ⟨rfl, rfl, rfl⟩) hk (by rw [r_n192, hq0]; exact hq)
        rw [r_n192, hq0] at z2
        obtain ⟨r', M', k, t⟩ := r_mk_189 (x2 := 102) (x3 := 2) (x4 := r) hp hW hpc z1 (by omega) (fun h => by
          obtain ⟨y1, y2, y3⟩ := z5 (z4.resolve_left h)
          refine Or.inr (Or.inr (Or.inl ⟨hp.1, by omega, z1.2.2.2.2.1, by omega, y2, fun k k0 k1 => ?_⟩))
          rcases r_mem_pt z1 (y3 k k0 k1) with h | h | ⟨h, -⟩
          · exact Or.inl h
          · exact Or.inr h
          · exact absurd h (by decide))
        refine ⟨r', M', ?_, t⟩
        have k159 := (n159 102 2 r M1 (by decide)).trans k
        rw [E_V_eq]
        show e_tv E_C (E_V 188) e_t188_19 [192, p, 28, 0, x4] N = _
        unfold e_t188_19
        rw [c2] at ks
        simp [e_tv, e_ev, e_sv, e_b1, e_b2, x_o1, x_o2, r_O0, ks, w1, st, k1, k159]
      · have hk := hN 3 (by decide)
        obtain ⟨r, M1, k1, z1, z2, z3, z4, z5⟩ := r_makesOver hp.2 hW hpc hb (Or.inr ⟨rfl, rfl, rfl⟩) hk (by rw [r_n192, hq0]; exact hq)
        rw [r_n192, hq0] at z2
        have w2 : e_w (28 * p + 5) = 28 * p + 5 := a_w_id (by omega) (by omega)
        have w3 : e_w (28 * p + 6) = 28 * p + 6 := a_w_id (by omega) (by omega)
        have s2 := r_stw (i := 28 * p + 5) (v := 5) (M := M1) (by omega) (by omega)
        have s3 := r_stw (i := 28 * p + 6) (v := 1) (M := e_up M1 193 (28 * p + 5).toNat 5) (by omega) (by omega)
        have y1' := r_mk_w (i := 28 * p + 5) (v := 5) z1 hp.1 (by omega) (fun e => absurd e (by decide)) (fun _ => by omega) (by decide)
        have y2' := r_mk_w (i := 28 * p + 6) (v := 1) y1' hp.1 (by omega) (fun e => absurd e (by decide)) (fun _ => by omega) (by decide)
        have same : ∀ i, i ≠ 28 * p + 5 → i ≠ 28 * p + 6 → r_G (e_up (e_up M1 193 (28 * p + 5).toNat 5) 193 (28 * p + 6).toNat 1) i = r_G M1 i := fun i h1 h2 => (r_G_n (by omega) h2).trans (r_G_n (by omega) h1)
        obtain ⟨r', M', k, t⟩ := r_mk_189 (x2 := r_sg N) (x3 := 3) (x4 := r) hp hW hpc y2' (by rw [r_n192, r_n192]; omega) (fun h => by
          obtain ⟨y1, y2, y3⟩ := z5 (z4.resolve_left h)
          refine Or.inr (Or.inr (Or.inr ⟨hp.1, by omega, y2'.2.2.2.2.1, ⟨?_, ?_⟩, ?_⟩))
          · rw [same _ (by omega) (by omega)]; omega
          · rw [y2'.2.2.2.2.2.2.1 rfl]; decide
          · rw [same _ (by omega) (by omega)]
            have h0 := y3 0 (by decide) (by omega)
            rw [Int.add_zero] at h0
            exact (r_mem_pt y2' h0).imp id (Or.imp id (fun h => h.2)))
        refine ⟨r', M', ?_, t⟩
        have k159 : E_V 188 159 [192, p, r_sg N, 3, r] M1 = some (r', M') := by
          rw [E_V_eq]
          show e_tv E_C (E_V 188) e_t188_159 [192, p, r_sg N, 3, r] M1 = _
          unfold e_t188_159
          simp [e_tv, e_ev, e_sv, e_b1, e_b2, x_o1, x_o2, r_O0, w1, w2, w3, s2, s3, k]
        rw [E_V_eq]
        show e_tv E_C (E_V 188) e_t188_19 [192, p, 28, 0, x4] N = _
        unfold e_t188_19
        simp [e_tv, e_ev, e_sv, e_b1, e_b2, x_o1, x_o2, r_O0, ks, c0, c1, c2, w1, st, k1, k159]
