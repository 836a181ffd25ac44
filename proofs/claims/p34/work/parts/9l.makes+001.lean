theorem r_mc_loop {p : Int} {g0 : Int → Int} {M0 : EM} (hp : 0 ≤ p ∧ p < 40) (hb : r_bl M0) : ∀ (m : Nat) (n x3 x4 x5 : Int) (M : EM), r_mk p 0 g0 M0 M → (M0 192 17 - M 192 15).toNat ≤ m → (0 ≤ M 192 15 ∧ M 192 15 ≤ 120) → (0 ≤ n ∧ n ≤ 6) → ∃ r M', E_V 184 4 [192, p, n, x3, x4, x5] M = some (r, M') ∧ r_mk p 0 g0 M0 M' ∧ M 192 15 < M' 192 15 ∧ M' 192 15 ≤ 130 ∧ 0 ≤ r_G M' (28 * p + 2) ∧ r_G M' (28 * p + 2) ≤ 6 := by
  intro m
  induction m with
  | zero =>
    intro n x3 x4 x5 M hk hm hq hn
    exact r_mc_step hp hb hk hq hn (fun M1 n x3 x4 x5 h1 h2 h3 h4 => by omega)
  | succ m ih =>
    intro n x3 x4 x5 M hk hm hq hn
    have hb3 := hb.2.2
    exact r_mc_step hp hb hk hq hn (fun M1 n x3 x4 x5 h1 h2 h3 h4 => ih n x3 x4 x5 M1 h1 (by omega) ⟨by omega, by omega⟩ h4)
theorem r_makesCell {p : Int} {g0 : Int → Int} {M0 M : EM} (hp : 0 ≤ p ∧ p < 40) (hb : r_bl M0) (hk : r_mk p 0 g0 M0 M) (hq : 0 ≤ M 192 15 ∧ M 192 15 ≤ 120) : ∃ r M', E_C 184 [192, p] M = some (r, M') ∧ r_mk p 0 g0 M0 M' ∧ M 192 15 < M' 192 15 ∧ M' 192 15 ≤ 130 ∧ r_cl (r_G M') (p + 1) p := by
  obtain ⟨r, M', k, z1, z2, z3, z4, z5⟩ := r_mc_loop hp hb _ 0 1 0 0 M hk (Nat.le_refl _) hq (by decide)
  refine ⟨r, M', ?_, z1, z2, z3, hp.1, by omega, z1.2.2.2.2.1, z4, z5, Or.inl (z1.2.2.2.2.2.1 rfl)⟩
  rw [r_ent (show e_rok 184 [192, p] = true from decide_eq_true r_ref)]
  show e_tv E_C (E_V 184) e_t184_0 [192, p, 0, 0, 0, 0] M = _
  unfold e_t184_0
  simp [e_tv, e_ev, e_sv, e_b1, e_b2, x_o1, x_o2, k]
/-! a FIELD, a BOX -/
/-- what may come into it -/
def r_mem (kd : Int) (g : Int → Int) (p y : Int) : Prop := r_cl g p y ∨ r_rw g p y ∨ (kd = 3 ∧ r_fd g p y)
theorem r_mo_end {p kd : Int} {g0 : Int → Int} {M0 M : EM} {most kinds n x5 x6 : Int} (hp : 0 ≤ p ∧ p < 40) (hb : r_bl M0) (hk : r_mk p kd g0 M0 M) (hkd : kd ≠ 0) (hq : 0 ≤ M 192 15 ∧ M 192 15 ≤ 200) (hn : 0 ≤ n ∧ n ≤ 6) (hs : r_sg M ≠ 32) (hm : x5 = 1 → ∀ k, 0 ≤ k → k < n → r_mem kd g0 p (r_G M (28 * p + 3 + k))) : ∃ M', E_V 187 99 [192, p, most, kinds, n, x5, x6] M = some (x5, M') ∧ r_mk p kd g0 M0 M' ∧ M' 192 15 = M 192 15 ∧ r_G M' (28 * p + 2) = n ∧ (x5 = 1 → ∀ k, 0 ≤ k → k < n → r_mem kd g0 p (r_G M' (28 * p + 3 + k))) := by
  have ks := r_sign (r_mk_ty hk hb ⟨hq.1, by omega⟩)
  have w1 : e_w (28 * p) = 28 * p := a_w_id (by omega) (by omega)
  have w2 : e_w (28 * p + 2) = 28 * p + 2 := a_w_id (by omega) (by omega)
  have st := r_stw (i := 28 * p + 2) (v := n) (M := M) (by omega) (by omega)
  have h2 := r_mk_w (i := 28 * p + 2) (v := n) hk hp.1 (by omega) (fun e => absurd e hkd) (fun _ => by omega) ⟨by omega, by omega⟩
  refine ⟨_, ?_, h2, r_n192, r_G_s, fun h5 k k0 k1 => ?_⟩
  · rw [E_V_eq]
    show e_tv E_C (E_V 187) e_t187_99 [192, p, most, kinds, n, x5, x6] M = _
    unfold e_t187_99
    simp [e_tv, e_ev, e_sv, e_b1, e_b2, x_o1, x_o2, r_O0, ks, hs, w1, w2, st]
  · rw [r_G_n (by omega) (by omega)]
    exact hm h5 k k0 k1
def r_MO (p kd most : Int) (g0 : Int → Int) (M0 M : EM) (o : EO) : Prop := ∃ r M', o = some (r, M') ∧ r_mk p kd g0 M0 M' ∧ M 192 15 < M' 192 15 ∧ M' 192 15 ≤ 130 ∧ (r = 0 ∨ r = 1) ∧ (r = 1 → 1 ≤ r_G M' (28 * p + 2) ∧ r_G M' (28 * p + 2) ≤ most ∧ ∀ k, 0 ≤ k → k < r_G M' (28 * p + 2) → r_mem kd g0 p (r_G M' (28 * p + 3 + k)))
theorem r_mo_step {p kd most kinds : Int} {g0 : Int → Int} {M0 : EM} (hp : p < 40) (hW : r_W g0) (hpc : g0 1198 = p) (hb : r_bl M0) (hkd : kd = 2 ∧ most = 6 ∧ kinds = 3 ∨ kd = 3 ∧ most = 1 ∧ kinds = 7) {n x5 x6 : Int} {M : EM} (hk : r_mk p kd g0 M0 M) (hq : 0 ≤ M 192 15 ∧ M 192 15 ≤ 120) (hn : 0 ≤ n ∧ n ≤ 6) (hx : x5 = 0 ∨ x5 = 1) (hm : x5 = 1 → ∀ k, 0 ≤ k → k < n → r_mem kd g0 p (r_G M (28 * p + 3 + k))) (H : ∀ M1 n x5 x6, r_mk p kd g0 M0 M1 → M 192 15 < M1 192 15 → M1 192 15 < M0 192 17 → (0 ≤ n ∧ n ≤ 6) → (x5 = 0 ∨ x5 = 1) → (x5 = 1 → ∀ k, 0 ≤ k → k < n → r_mem kd g0 p (r_G M1 (28 * p + 3 + k))) → r_MO p kd most g0 M0 M1 (E_V 187 6 [192, p, most, kinds, n, x5, x6] M1)) : r_MO p kd most g0 M0 M (E_V 187 6 [192, p, most, kinds, n, x5, x6] M) := by
  have hp0 : 0 ≤ p := by rw [← hpc]; exact hW.1
  have hb' := hb
  obtain ⟨b1, b2, b3⟩ := hb'
  have e17 := r_mk_17 hk
  have w1 : e_w (M 192 15 + 1) = M 192 15 + 1 := a_w_id (by omega) (by omega)
  have h1 := r_mk_p (v := M 192 15 + 1) hk ⟨by omega, by omega⟩
  have q1 : (e_up M 192 15 (M 192 15 + 1)) 192 15 = M 192 15 + 1 := c_up_s
  have eG1 : r_G (e_up M 192 15 (M 192 15 + 1)) = r_G M := r_up_Gne (by decide)
  generalize hM1 : e_up M 192 15 (M 192 15 + 1) = M1 at h1 q1 eG1
  have T1 := r_mk_ty h1 hb ⟨by omega, by omega⟩
  obtain ⟨r2, M2, k2, t2, -, -⟩ := r_rNum T1
  have h2 := r_mk_t h1 t2
  have eG2 : r_G M2 = r_G M := (funext fun i => t2.2.1 _ _ (by omega)).trans eG1
  have l2 := t2.2.2.1
  have u2 := t2.2.2.2.1
  have e2 := r_mk_17 h1
  have hq2 : M 192 15 + 1 ≤ M2 192 15 ∧ M2 192 15 ≤ 121 := by omega
  obtain ⟨n0, n99⟩ := h2.2.2.2.2.2.2.2
  have tail : ∀ N y4 y5, r_mk p kd g0 M0 N → N 192 15 = M2 192 15 → (0 ≤ y4 ∧ y4 ≤ 6) → (y5 = 0 ∨ y5 = 1) → (y5 = 1 → 1 ≤ y4 ∧ y4 ≤ most) → (y5 = 1 → ∀ k, 0 ≤ k → k < y4 → r_mem kd g0 p (r_G N (28 * p + 3 + k))) → r_MO p kd most g0 M0 M (E_V 187 99 [192, p, most, kinds, y4, y5, r2] N) := by
    intro N y4 y5 hN hN15 hy hy5 hy1 hmm
    have TN := r_mk_ty hN hb ⟨by omega, by omega⟩
    by_cases c : r_sg N = 32
    · have ks := r_sign TN
      have hl := r_sg_lt c (by decide)
      have eN := r_mk_17 hN
      obtain ⟨r, M', k, z1, z2, z3⟩ := H N y4 y5 r2 hN (by omega) (by omega) hy hy5 hmm
      refine ⟨r, M', ?_, z1, by omega, z3⟩
      rw [E_V_eq]
      show e_tv E_C (E_V 187) e_t187_99 [192, p, most, kinds, y4, y5, r2] N = _
      unfold e_t187_99
      simp [e_tv, e_ev, e_sv, e_b1, e_b2, x_o1, x_o2, ks, c, k]
    · obtain ⟨M', k, z1, z2, z3, z4⟩ := r_mo_end (most := most) (kinds := kinds) (x5 := y5) (x6 := r2) ⟨hp0, hp⟩ hb hN (by omega) ⟨by omega, by omega⟩ hy c hmm
      exact ⟨y5, M', k, z1, by omega, by omega, hy5, fun h => ⟨by rw [z3]; exact (hy1 h).1, by rw [z3]; exact (hy1 h).2, by rw [z3]; exact z4 h⟩⟩
  by_cases c0 : x5 = 0
  · obtain ⟨r, M', k, z⟩ := tail M2 n 0 h2 rfl hn (Or.inl rfl) (fun e => absurd e (by decide)) (fun e => absurd e (by decide))
    refine ⟨r, M', ?_, z⟩
    rw [E_V_eq]
    show e_tv E_C (E_V 187) e_t187_6 [192, p, most, kinds, n, x5, x6] M = _
    unfold e_t187_6
    simp [e_tv, e_ev, e_sv, e_b1, e_b2, x_o1, x_o2, r_O0, r_F15, r_F18, r_P15, w1, hM1, k2, c0, k]
  · have c5 : x5 = 1 := by omega
    rcases x_lt n most with ⟨c1, c1_n⟩ | ⟨c1, c1_n⟩
    · obtain ⟨s, ks, hs, hs1⟩ := r_mayCome (ks := kinds) (M := M2) n0 (p := p) (by omega)
      rcases hs with hs | hs
      · subst hs
        obtain ⟨r, M', k, z⟩ := tail M2 n 0 h2 rfl hn (Or.inl rfl) (fun e => absurd e (by decide)) (fun e => absurd e (by decide))
        refine ⟨r, M', ?_, z⟩
        rw [E_V_eq]
        show e_tv E_C (E_V 187) e_t187_6 [192, p, most, kinds, n, x5, x6] M = _
        unfold e_t187_6
        simp [e_tv, e_ev, e_sv, e_b1, e_b2, x_o1, x_o2, r_O0, r_F15, r_F18, r_P15, w1, hM1, k2, c0, c1, c1_n, ks, k]
      · subst hs
        obtain ⟨hq0, hbit⟩ := hs1 rfl
        have hK := r_W_kind hW (q := M2 192 18) ⟨n0, by rw [hpc]; exact hq0⟩
        rw [hpc] at hK
        obtain ⟨K0, K1, K2, K3⟩ := hK
        have eK : r_G M2 (28 * M2 192 18) = g0 (28 * M2 192 18) := h2.2.2.1 _ (by omega) (by omega) (by omega)
        rw [eK] at hbit
        obtain ⟨-, B3, B7⟩ := r_bits K0
        have hmemq : r_mem kd g0 p (M2 192 18) := by
          rcases hkd with ⟨h2, -, h3⟩ | ⟨h2, -, h3⟩
          · rw [h3] at hbit
            rcases B3 hbit with e | e
            · exact Or.inl (K1 e)
            · exact Or.inr (Or.inl (K2 e))
          · rw [h3] at hbit
            rcases B7 hbit with e | e | e
            · exact Or.inl (K1 e)
            · exact Or.inr (Or.inl (K2 e))
            · exact Or.inr (Or.inr ⟨h2, K3 e⟩)
        have v1 : e_w (28 * p) = 28 * p := a_w_id (by omega) (by omega)
        have v2 : e_w (28 * p + 3) = 28 * p + 3 := a_w_id (by omega) (by omega)
        have v3 : e_w (28 * p + 3 + n) = 28 * p + 3 + n := a_w_id (by omega) (by omega)
        have v4 : e_w (28 * M2 192 18) = 28 * M2 192 18 := a_w_id (by omega) (by omega)
        have v5 : e_w (28 * M2 192 18 + 1) = 28 * M2 192 18 + 1 := a_w_id (by omega) (by omega)
        have v6 : e_w (n + 1) = n + 1 := a_w_id (by omega) (by omega)
        have v7 : e_w (p + 1) = p + 1 := a_w_id (by omega) (by omega)
        have s1 := fun v => r_stw (i := 28 * p + 3 + n) (v := v) (M := M2) (by omega) (by omega)
        have s2 := fun v M => r_stw (i := 28 * M2 192 18 + 1) (v := v) (M := M) (by omega) (by omega)
        have h5 := r_mk_w (i := 28 * p + 3 + n) (v := M2 192 18) h2 hp0 (by omega) (fun _ => by omega) (fun e => by omega) ⟨by omega, by omega⟩
        have h6 := r_mk_o (q := M2 192 18) (v := p + 1) h5 ⟨n0, hq0⟩ ⟨by omega, by omega⟩
        have hmm : ∀ k, 0 ≤ k → k < n + 1 → r_mem kd g0 p (r_G (e_up (e_up M2 193 (28 * p + 3 + n).toNat (M2 192 18)) 193 (28 * M2 192 18 + 1).toNat (p + 1)) (28 * p + 3 + k)) := by
          intro k k0 k1
          rw [r_G_n (by omega) (by omega)]
          by_cases hkn : k = n
          · subst hkn
            rw [r_G_s]
            exact hmemq
          · rw [r_G_n (by omega) (by omega), eG2]
            exact hm c5 k k0 (by omega)
        obtain ⟨r, M', k, z⟩ := tail _ (n + 1) 1 h6 (r_n192.trans r_n192) ⟨by omega, by omega⟩ (Or.inr rfl) (fun _ => ⟨by omega, by omega⟩) (fun _ => hmm)
        refine ⟨r, M', ?_, z⟩
        rw [E_V_eq]
        show e_tv E_C (E_V 187) e_t187_6 [192, p, most, kinds, n, x5, x6] M = _
        unfold e_t187_6
        simp [e_tv, e_ev, e_sv, e_b1, e_b2, x_o1, x_o2, r_O0, r_F15, r_F18, r_P15, r_n192, w1, hM1, k2, c0, c1, c1_n, ks, v1, v2, v3, v4, v5, v6, v7, s1, s2, k]
    · obtain ⟨r, M', k, z⟩ := tail M2 n 0 h2 rfl hn (Or.inl rfl) (fun e => absurd e (by decide)) (fun e => absurd e (by decide))
      refine ⟨r, M', ?_, z⟩
      rw [E_V_eq]
      show e_tv E_C (E_V 187) e_t187_6 [192, p, most, kinds, n, x5, x6] M = _
      unfold e_t187_6
      simp [e_tv, e_ev, e_sv, e_b1, e_b2, x_o1, x_o2, r_O0, r_F15, r_F18, r_P15, w1, hM1, k2, c0, c1, c1_n, k]
