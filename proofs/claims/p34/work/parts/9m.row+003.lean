section RROW
variable {p a : Int} {g0 : Int → Int} {M0 : EM}
theorem r_mr_in {gr x5 : Int} (hp : 0 ≤ p ∧ p < 40) (hW : r_W g0) (hpc : g0 1198 = p) (hb : r_bl M0) (hH : r_RH p a g0 M0) (hx5 : x5 = 0 ∨ x5 = 1) (hg0 : 0 ≤ gr) : ∀ (m : Nat) (n x4 x7 : Int) (N : EM), r_RI p g0 M0 n x4 N → (M0 192 17 - N 192 15).toNat ≤ m → (a < N 192 15 ∧ 0 ≤ N 192 15 ∧ N 192 15 ≤ 122) → gr + 1 ≤ N 192 15 → (x4 = 1 → gr ≤ n) → r_MR p a g0 M0 (E_V 186 28 [192, p, n, gr, x4, x5, 1, x7] N) := by
  have hb3 := hb.2.2
  intro m
  induction m with
  | zero =>
    intro n x4 x7 N h hm hq hg hgn
    exact r_mr_step hp hW hpc hb hH h hx5 hq ⟨hg0, hg⟩ hgn (fun N1 n x4 x7 h1 h2 h3 h4 => by omega)
  | succ m ih =>
    intro n x4 x7 N h hm hq hg hgn
    exact r_mr_step hp hW hpc hb hH h hx5 hq ⟨hg0, hg⟩ hgn (fun N1 n x4 x7 h1 h2 h3 h4 => ih n x4 x7 N1 h1 (by omega) ⟨by omega, by omega, by omega⟩ (by omega) h4)
theorem r_mr_item {n gr x4 x5 x6 x7 : Int} {N : EM} (hp : 0 ≤ p ∧ p < 40) (hW : r_W g0) (hpc : g0 1198 = p) (hb : r_bl M0) (hH : r_RH p (N 192 15) g0 M0) (h : r_RI p g0 M0 n x4 N) (hq : 0 ≤ N 192 15 ∧ N 192 15 ≤ 120) (hg : 0 ≤ gr ∧ gr ≤ N 192 15) (hgn : x4 = 1 → gr ≤ n) : r_MR p (N 192 15) g0 M0 (E_V 186 7 [192, p, n, gr, x4, x5, x6, x7] N) := by
  have hb3 := hb.2.2
  have w1 : e_w (N 192 15 + 1) = N 192 15 + 1 := a_w_id (by omega) (by omega)
  have q1 : (e_up N 192 15 (N 192 15 + 1)) 192 15 = N 192 15 + 1 := c_up_s
  have h1 := r_RI_p (v := N 192 15 + 1) h ⟨by omega, by omega⟩
  generalize hM1 : e_up N 192 15 (N 192 15 + 1) = M1 at q1 h1
  have T1 := r_mk_ty h1.1 hb ⟨by omega, by omega⟩
  obtain ⟨s, M2, k2, t2, hs, hs1⟩ := r_takesT (c := 91) T1 (by decide)
  have h2 := r_RI_t h1 t2
  have l2 := t2.2.2.1
  have u2 := t2.2.2.2.1
  have e17 := r_mk_17 h1.1
  obtain ⟨r, M', k, z⟩ := r_mr_in (x5 := s) hp hW hpc hb hH hs hg.1 _ n x4 x7 M2 h2 (Nat.le_refl _) (by omega) (by omega) hgn
  refine ⟨r, M', ?_, z⟩
  rw [E_V_eq]
  show e_tv E_C (E_V 186) e_t186_7 [192, p, n, gr, x4, x5, x6, x7] N = _
  unfold e_t186_7
  simp [e_tv, e_ev, e_sv, e_b1, e_b2, x_o1, x_o2, r_F15, r_P15, w1, hM1, k2, k]
theorem r_MR_up {a b : Int} {o : EO} (h : r_MR p b g0 M0 o) (hab : a ≤ b) : r_MR p a g0 M0 o := by
  obtain ⟨r, M', k, z1, z2, z3⟩ := h
  exact ⟨r, M', k, z1, by omega, z3⟩
theorem r_mr_all (hp : 0 ≤ p ∧ p < 40) (hW : r_W g0) (hpc : g0 1198 = p) (hb : r_bl M0) : ∀ (m : Nat) (n gr x4 x5 x6 x7 : Int) (N : EM), r_RI p g0 M0 n x4 N → (M0 192 17 - N 192 15).toNat ≤ m → (0 ≤ N 192 15 ∧ N 192 15 ≤ 120) → (0 ≤ gr ∧ gr ≤ N 192 15) → (x4 = 1 → gr ≤ n) → r_MR p (N 192 15) g0 M0 (E_V 186 7 [192, p, n, gr, x4, x5, x6, x7] N) := by
  have hb3 := hb.2.2
  intro m
  induction m with
  | zero =>
    intro n gr x4 x5 x6 x7 N h hm hq hg hgn
    exact r_mr_item hp hW hpc hb (fun N1 n gr x4 x5 x6 x7 h1 h2 h3 h4 h5 => by omega) h hq hg hgn
  | succ m ih =>
    intro n gr x4 x5 x6 x7 N h hm hq hg hgn
    exact r_mr_item hp hW hpc hb (fun N1 n gr x4 x5 x6 x7 h1 h2 h3 h4 h5 => r_MR_up (ih n gr x4 x5 x6 x7 N1 h1 (by omega) ⟨by omega, by omega⟩ h4 h5) (by omega)) h hq hg hgn
theorem r_makesRow {M : EM} (hp : 0 ≤ p ∧ p < 40) (hW : r_W g0) (hpc : g0 1198 = p) (hb : r_bl M0) (hk : r_mk p 1 g0 M0 M) (hq : 0 ≤ M 192 15 ∧ M 192 15 ≤ 120) : r_MR p (M 192 15) g0 M0 (E_C 186 [192, p] M) := by
  obtain ⟨r, M', k, z⟩ := r_mr_all hp hW hpc hb _ 0 0 1 0 0 0 M ⟨hk, by decide, Or.inr rfl, fun _ k k0 k1 => by omega⟩ (Nat.le_refl _) hq ⟨by decide, hq.1⟩ (fun _ => by decide)
  refine ⟨r, M', ?_, z⟩
  rw [r_ent (show e_rok 186 [192, p] = true from decide_eq_true r_ref)]
  show e_tv E_C (E_V 186) e_t186_0 [192, p, 0, 0, 0, 0, 0, 0] M = _
  unfold e_t186_0
  simp [e_tv, e_ev, e_sv, e_b1, e_b2, x_o1, x_o2, k]
end RROW
