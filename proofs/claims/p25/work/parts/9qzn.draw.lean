section
/-! the class draws CELLS: exactly -/
theorem bx_shv {l d w : Int} (hl : 0 ≤ l ∧ l ≤ 100) (hd : 0 ≤ d ∧ d ≤ 100) (hw : 0 ≤ w ∧ w ≤ 100) : e_w ((e_w (e_w (l * e_w (100 - d)) * e_w (100 - w))).tdiv 10000) = (l * (100 - d) * (100 - w)).tdiv 10000 ∧ 0 ≤ (l * (100 - d) * (100 - w)).tdiv 10000 ∧ (l * (100 - d) * (100 - w)).tdiv 10000 ≤ 100 := by
  have a0 : 0 ≤ l * (100 - d) := Int.mul_nonneg hl.1 (by omega)
  have a1 : l * (100 - d) ≤ l * 100 := Int.mul_le_mul_of_nonneg_left (by omega) hl.1
  have b0 : 0 ≤ l * (100 - d) * (100 - w) := Int.mul_nonneg a0 (by omega)
  have b1 : l * (100 - d) * (100 - w) ≤ l * (100 - d) * 100 := Int.mul_le_mul_of_nonneg_left (by omega) a0
  rw [a_w_id (x := 100 - d) (by omega) (by omega), a_w_id (x := 100 - w) (by omega) (by omega)]
  revert a0 a1 b0 b1
  generalize l * (100 - d) = A
  intro a0 a1 b0 b1
  rw [a_w_id (x := A) (by omega) (by omega)]
  revert b0 b1
  generalize A * (100 - w) = B
  intro b0 b1
  rw [a_w_id (x := B) (by omega) (by omega), Int.tdiv_eq_ediv_of_nonneg b0]
  have z : 0 ≤ B / 10000 ∧ B / 10000 ≤ 100 := by omega
  exact ⟨a_w_id (by omega) (by omega), z⟩
def bx_sh (M : EM) (j : Nat) : Int := if M 176 j = 0 then (M 175 (4 * j) * (100 - M 175 (4 * j + 1)) * (100 - M 175 (4 * j + 2))).tdiv 10000 else 0
/-- CELL j of the bench, known -/
def bx_kn (g : Int → Int) (SH WM : Int → Int) (M : EM) (j : Nat) : Prop := ∃ q : Nat, M 174 j = q ∧ (q : Int) < g 1198 ∧ g (28 * (q : Int)) = 0 ∧ (∀ a, a < 4 → 0 ≤ M 175 (4 * j + a) ∧ M 175 (4 * j + a) ≤ 100) ∧ bx_sh M j = SH q ∧ M 175 (4 * j + 3) = WM q
def bx_DP (g : Int → Int) (M M' : EM) (j n : Nat) (q s w : Int) : Prop := (∀ i, i < n → M' 177 (6 * j + i) = cu_pv g w q i ∧ M' 178 (6 * j + i) = cu_cv g s q i) ∧ ∀ id k, ¬ ((id = 177 ∨ id = 178) ∧ 6 * j ≤ k ∧ k < 6 * j + 6) → M' id k = M id k
theorem bx_pve {g : Int → Int} {w q z : Int} {i : Nat} (hz : z = g (28 * q + 3 + (i : Int))) (h0 : 0 ≤ z ∧ z ≤ 60) (hw : 0 ≤ w ∧ w ≤ 100) : e_w (z - e_w ((e_w (z * w)).tdiv 100)) = cu_pv g w q i := by
  unfold cu_pv
  rw [← hz]
  have d := cu_wv (p := z) (w := w) ⟨h0.1, by omega⟩ hw
  rw [a_w_id (x := z * w) (by omega) (by omega), a_w_id (x := (z * w).tdiv 100) (by omega) (by omega), a_w_id (by omega) (by omega)]
theorem bx_cve {g : Int → Int} {s q z : Int} {i : Nat} (hz : z = g (28 * q + 9 + (i : Int))) (h0 : 0 ≤ z ∧ z ≤ 99) (hs : 0 ≤ s ∧ s ≤ 100) : e_w ((e_w (z * s)).tdiv 100) = cu_cv g s q i := by
  unfold cu_cv
  rw [← hz]
  have d := cu_wv (p := z) (w := s) ⟨h0.1, by omega⟩ hs
  rw [a_w_id (x := z * s) (by omega) (by omega), a_w_id (x := (z * s).tdiv 100) (by omega) (by omega)]
theorem bx_74 {g : Int → Int} {M0 : EM} {j q n : Nat} {j0 s w x2 : Int} (hj0 : j0 = j) (hj : j < 40) (hq : q < 40) (h174 : M0 174 j = q) (hd : hd_d0 M0 0 g q) (hn : g (28 * (q : Int) + 2) = n) (hs : 0 ≤ s ∧ s ≤ 100) (hw : 0 ≤ w ∧ w ≤ 100) : ∀ (d i : Nat) (x5 x6 x7 : Int) (M : EM), x5 = i → i + d = 6 → (∀ k, k < i → k < n → M 177 (6 * j + k) = cu_pv g w q k ∧ M 178 (6 * j + k) = cu_cv g s q k) → (∀ id k, ¬ ((id = 177 ∨ id = 178) ∧ 6 * j ≤ k ∧ k < 6 * j + 6) → M id k = M0 id k) → ∃ M', E_V 9 74 [170, j0, x2, w, s, x5, x6, x7] M = some (0, M') ∧ bx_DP g M0 M' j n q s w := by
  obtain ⟨hv, d2, d3⟩ := hd
  obtain ⟨n2, n6, b3, -, -, -⟩ := hd_cv_bd hv hn
  intro d
  induction d with
  | zero =>
    intro i x5 x6 x7 M hx hi h1 h2
    have q5 : ¬ (x5 < 6) := by omega
    refine ⟨M, ?_, fun k hk => h1 k (by omega) hk, h2⟩
    rw [E_V_eq]
    show e_tv E_C (E_V 9) e_t9_74 [170, j0, x2, w, s, x5, x6, x7] M = _
    unfold e_t9_74
    simp [zq_a, zq_b, zq_c, zq_d, zq_e, zq_f, zq_g, zq_h, zq_i, zq_j, zq_k, zq_l, zq_m, zq_n, zq_o, zq_p, zq_q, zq_r, zq_s, zq_t, zq_u, zq_v, zq_w, zq_x, zq_y, zq_z, zq_A, zq_B, zq_C, zq_D, zq_E, zq_F, zq_G, zq_H, zq_I, zq_J, zq_K, zq_L, ↓zq_M, ↓zq_N, ↓zq_O, ↓zq_P, ↓zq_Q, ↓zq_R, zq_S, zq_T, zq_U, zq_V, zq_W, zq_X, zq_Y, zq_Z, zq_0, zq_1, zq_2, zq_3, zq_4, zq_5, ↓zq_6, ↓zq_7, ↓zq_8, ↓zq_9, ↓zq_aa, zq_ab, zq_ac, zq_ad, zq_ae, zq_af, zq_ag, ↓zq_ah, ↓zq_ai, ↓zq_aj, zq_ak, ↓zq_al, ↓zq_am, e_b1, e_b2, x_o1, x_o2, q5]
  | succ d ih =>
    intro i x5 x6 x7 M hx hi h1 h2
    have q5 : x5 < 6 := by omega
    have i1 : (q : Int) * 6 + x5 = ((6 * q + i : Nat) : Int) := by omega
    have i2 : 6 * q + i < 240 := by omega
    have i3 : j0 * 6 + x5 = ((6 * j + i : Nat) : Int) := by omega
    have i4 : 6 * j + i < 240 := by omega
    obtain ⟨u, hu⟩ : ∃ u, M0 19 (6 * q + i) = u := ⟨_, rfl⟩
    obtain ⟨v, hv'⟩ : ∃ v, M0 20 (6 * q + i) = v := ⟨_, rfl⟩
    obtain ⟨pv, hpv⟩ : ∃ pv, e_w (u - e_w ((e_w (u * w)).tdiv 100)) = pv := ⟨_, rfl⟩
    obtain ⟨cv, hcv⟩ : ∃ cv, e_w ((e_w (v * s)).tdiv 100) = cv := ⟨_, rfl⟩
    have vals : i < n → pv = cu_pv g w q i ∧ cv = cu_cv g s q i := fun hin => by
      obtain ⟨e1, e2⟩ := d3 i (by omega)
      obtain ⟨c1, c2⟩ := b3 i hin
      have e1' : u = g (28 * (q : Int) + 3 + (i : Int)) := hu.symm.trans e1
      have e2' : v = g (28 * (q : Int) + 9 + (i : Int)) := hv'.symm.trans e2
      exact ⟨hpv.symm.trans (bx_pve e1' (by rw [e1']; exact c1) hw), hcv.symm.trans (bx_cve e2' (by rw [e2']; exact c2) hs)⟩
    have l1 := w_layN (a := 177) (i := j0 * 6 + x5) (n := 240) (by decide +kernel) (j := 6 * j + i) i3 i4 pv M
    have l1' : E_C 147 [177, j0 * 6 + x5, pv] M = some (0, e_up M 177 (6 * j + i) pv) := l1
    have l2 := w_layN (a := 178) (i := j0 * 6 + x5) (n := 240) (by decide +kernel) (j := 6 * j + i) i3 i4 cv (e_up M 177 (6 * j + i) pv)
    have l2' : E_C 147 [178, j0 * 6 + x5, cv] (e_up M 177 (6 * j + i) pv) = some (0, e_up (e_up M 177 (6 * j + i) pv) 178 (6 * j + i) cv) := l2
    obtain ⟨M1, hM1⟩ : ∃ M1, e_up (e_up M 177 (6 * j + i) pv) 178 (6 * j + i) cv = M1 := ⟨_, rfl⟩
    rw [hM1] at l2'
    have t1 := fun N : EM => w_atN (a := 174) (i := j0) (n := 40) (by decide +kernel) (j := j) hj0 hj N
    have t174 : E_C 146 [174, j0] M = some ((q : Int), M) := (t1 M).trans (by rw [show M (174 : Int).toNat j = M0 174 j from h2 _ _ (by omega), h174])
    have t19 := w_atN (a := 19) (i := (q : Int) * 6 + x5) (n := 240) (by decide +kernel) (j := 6 * q + i) i1 i2 M
    have t19' : E_C 146 [19, (q : Int) * 6 + x5] M = some (u, M) := t19.trans (by rw [show M (19 : Int).toNat (6 * q + i) = M0 19 (6 * q + i) from h2 _ _ (by omega), hu])
    have t20 := w_atN (a := 20) (i := (q : Int) * 6 + x5) (n := 240) (by decide +kernel) (j := 6 * q + i) i1 i2 M
    have t20' : E_C 146 [20, (q : Int) * 6 + x5] M = some (v, M) := t20.trans (by rw [show M (20 : Int).toNat (6 * q + i) = M0 20 (6 * q + i) from h2 _ _ (by omega), hv'])
    obtain ⟨M', k, kk⟩ := ih (i + 1) (x5 + 1) u v M1 (by omega) (by omega) (fun k k1 k2 => by
      by_cases e : k = i
      · subst e
        obtain ⟨v1, v2⟩ := vals k2
        refine ⟨?_, ?_⟩
        · rw [← hM1, c_up_n (by omega), c_up_s, v1]
        · rw [← hM1, c_up_s, v2]
      · obtain ⟨z1, z2⟩ := h1 k (by omega) k2
        refine ⟨?_, ?_⟩
        · rw [← hM1, c_up_n (by omega), c_up_n (by omega)]; exact z1
        · rw [← hM1, c_up_n (by omega), c_up_n (by omega)]; exact z2) (fun id k h => by
      rw [← hM1, c_up_n (by omega), c_up_n (by omega)]
      exact h2 id k h)
    refine ⟨M', ?_, kk⟩
    clear ih h1 h2 vals kk d3 b3
    obtain ⟨qq, hqq⟩ : ∃ qq : Int, (q : Int) = qq := ⟨_, rfl⟩
    rw [hqq] at t174 t19' t20' i1
    have w1 : e_w (qq * 6) = qq * 6 := a_w_id (by omega) (by omega)
    have w2 : e_w (qq * 6 + x5) = qq * 6 + x5 := a_w_id (by omega) (by omega)
    have w3 : e_w (j0 * 6) = j0 * 6 := a_w_id (by omega) (by omega)
    have w4 : e_w (j0 * 6 + x5) = j0 * 6 + x5 := a_w_id (by omega) (by omega)
    have w5 : e_w (x5 + 1) = x5 + 1 := a_w_id (by omega) (by omega)
    rw [E_V_eq]
    show e_tv E_C (E_V 9) e_t9_74 [170, j0, x2, w, s, x5, x6, x7] M = _
    unfold e_t9_74
    simp [zq_a, zq_b, zq_c, zq_d, zq_e, zq_f, zq_g, zq_h, zq_i, zq_j, zq_k, zq_l, zq_m, zq_n, zq_o, zq_p, zq_q, zq_r, zq_s, zq_t, zq_u, zq_v, zq_w, zq_x, zq_y, zq_z, zq_A, zq_B, zq_C, zq_D, zq_E, zq_F, zq_G, zq_H, zq_I, zq_J, zq_K, zq_L, ↓zq_M, ↓zq_N, ↓zq_O, ↓zq_P, ↓zq_Q, ↓zq_R, zq_S, zq_T, zq_U, zq_V, zq_W, zq_X, zq_Y, zq_Z, zq_0, zq_1, zq_2, zq_3, zq_4, zq_5, ↓zq_6, ↓zq_7, ↓zq_8, ↓zq_9, ↓zq_aa, zq_ab, zq_ac, zq_ad, zq_ae, zq_af, zq_ag, ↓zq_ah, ↓zq_ai, ↓zq_aj, zq_ak, ↓zq_al, ↓zq_am, e_b1, e_b2, x_o1, x_o2, bx_G3, bx_Gb, bx_Ge, bx_Gf, w_H1, w_C0, w_C1, q5, w1, w2, w3, w4, w5, t174, t19', t20', hpv, hcv, l1', l2', k]
theorem bx_9 {g : Int → Int} {M : EM} {j q n : Nat} {j0 : Int} (hj0 : j0 = j) (hj : j < 40) (hq : q < 40) (h174 : M 174 j = q) (hd : hd_d0 M 0 g q) (hn : g (28 * (q : Int) + 2) = n) (ha : ∀ a, a < 4 → 0 ≤ M 175 (4 * j + a) ∧ M 175 (4 * j + a) ≤ 100) : (0 ≤ bx_sh M j ∧ bx_sh M j ≤ 100) ∧ ∃ M', E_C 9 [170, j0] M = some (0, M') ∧ bx_DP g M M' j n q (bx_sh M j) (M 175 (4 * j + 3)) := by
  have a0 := ha 0 (by decide)
  have a1 := ha 1 (by decide)
  have a2 := ha 2 (by decide)
  have a3 := ha 3 (by decide)
  rw [Nat.add_zero] at a0
  obtain ⟨z1, z2⟩ := bx_shv a0 a1 a2
  have hs : 0 ≤ bx_sh M j ∧ bx_sh M j ≤ 100 := by
    unfold bx_sh
    by_cases c : M 176 j = 0
    · rw [if_pos c]; exact z2
    · rw [if_neg c]; omega
  refine ⟨hs, ?_⟩
  obtain ⟨M', k, kk⟩ := bx_74 (x2 := j0 * 4) hj0 hj hq h174 hd hn hs a3 6 0 0 0 0 M rfl rfl (fun k h => absurd h (Nat.not_lt_zero _)) (fun _ _ _ => rfl)
  refine ⟨M', ?_, kk⟩
  clear kk hd hn
  have i0 : j0 * 4 = ((4 * j : Nat) : Int) := by omega
  have i1 : j0 * 4 + 1 = ((4 * j + 1 : Nat) : Int) := by omega
  have i2 : j0 * 4 + 2 = ((4 * j + 2 : Nat) : Int) := by omega
  have i3 : j0 * 4 + 3 = ((4 * j + 3 : Nat) : Int) := by omega
  have t0 : E_C 146 [175, j0 * 4] M = some (M 175 (4 * j), M) := w_atN (a := 175) (n := 160) (by decide +kernel) (j := 4 * j) i0 (by omega) M
  have t1 : E_C 146 [175, j0 * 4 + 1] M = some (M 175 (4 * j + 1), M) := w_atN (a := 175) (n := 160) (by decide +kernel) (j := 4 * j + 1) i1 (by omega) M
  have t2 : E_C 146 [175, j0 * 4 + 2] M = some (M 175 (4 * j + 2), M) := w_atN (a := 175) (n := 160) (by decide +kernel) (j := 4 * j + 2) i2 (by omega) M
  have t3 : E_C 146 [175, j0 * 4 + 3] M = some (M 175 (4 * j + 3), M) := w_atN (a := 175) (n := 160) (by decide +kernel) (j := 4 * j + 3) i3 (by omega) M
  have t4 : E_C 146 [176, j0] M = some (M 176 j, M) := w_atN (a := 176) (n := 40) (by decide +kernel) (j := j) hj0 hj M
  have w1 : e_w (j0 * 4) = j0 * 4 := a_w_id (by omega) (by omega)
  have w2 : e_w (j0 * 4 + 1) = j0 * 4 + 1 := a_w_id (by omega) (by omega)
  have w3 : e_w (j0 * 4 + 2) = j0 * 4 + 2 := a_w_id (by omega) (by omega)
  have w4 : e_w (j0 * 4 + 3) = j0 * 4 + 3 := a_w_id (by omega) (by omega)
  have k71 : ∀ s, E_V 9 71 [170, j0, j0 * 4, M 175 (4 * j + 3), s, 0, 0, 0] M = E_V 9 74 [170, j0, j0 * 4, M 175 (4 * j + 3), s, 0, 0, 0] M := fun s => by
    rw [E_V_eq]
    show e_tv E_C (E_V 9) e_t9_71 [170, j0, j0 * 4, M 175 (4 * j + 3), s, 0, 0, 0] M = _
    unfold e_t9_71
    simp [zq_a, zq_b, zq_c, zq_d, zq_e, zq_f, zq_g, zq_h, zq_i, zq_j, zq_k, zq_l, zq_m, zq_n, zq_o, zq_p, zq_q, zq_r, zq_s, zq_t, zq_u, zq_v, zq_w, zq_x, zq_y, zq_z, zq_A, zq_B, zq_C, zq_D, zq_E, zq_F, zq_G, zq_H, zq_I, zq_J, zq_K, zq_L, ↓zq_M, ↓zq_N, ↓zq_O, ↓zq_P, ↓zq_Q, ↓zq_R, zq_S, zq_T, zq_U, zq_V, zq_W, zq_X, zq_Y, zq_Z, zq_0, zq_1, zq_2, zq_3, zq_4, zq_5, ↓zq_6, ↓zq_7, ↓zq_8, ↓zq_9, ↓zq_aa, zq_ab, zq_ac, zq_ad, zq_ae, zq_af, zq_ag, ↓zq_ah, ↓zq_ai, ↓zq_aj, zq_ak, ↓zq_al, ↓zq_am, e_b1, e_b2, x_o1, x_o2]
  have k' := (k71 (bx_sh M j)).trans k
  clear k71 k i0 i1 i2 i3 ha h174
  unfold bx_sh at k'
  rw [r_ent (show e_rok 9 [170, j0] = true from bx_r (M := M) rfl (by decide +kernel))]
  show e_tv E_C (E_V 9) e_t9_0 [170, j0, 0, 0, 0, 0, 0, 0] M = _
  unfold e_t9_0
  by_cases c : M 176 j = 0
  · rw [if_pos c, ← z1] at k'
    rw [c] at t4
    simp [zq_a, zq_b, zq_c, zq_d, zq_e, zq_f, zq_g, zq_h, zq_i, zq_j, zq_k, zq_l, zq_m, zq_n, zq_o, zq_p, zq_q, zq_r, zq_s, zq_t, zq_u, zq_v, zq_w, zq_x, zq_y, zq_z, zq_A, zq_B, zq_C, zq_D, zq_E, zq_F, zq_G, zq_H, zq_I, zq_J, zq_K, zq_L, ↓zq_M, ↓zq_N, ↓zq_O, ↓zq_P, ↓zq_Q, ↓zq_R, zq_S, zq_T, zq_U, zq_V, zq_W, zq_X, zq_Y, zq_Z, zq_0, zq_1, zq_2, zq_3, zq_4, zq_5, ↓zq_6, ↓zq_7, ↓zq_8, ↓zq_9, ↓zq_aa, zq_ab, zq_ac, zq_ad, zq_ae, zq_af, zq_ag, ↓zq_ah, ↓zq_ai, ↓zq_aj, zq_ak, ↓zq_al, ↓zq_am, e_b1, e_b2, x_o1, x_o2, bx_Gc, bx_Gd, w1, w2, w3, w4, t0, t1, t2, t3, t4, k']
  · rw [if_neg c] at k'
    simp [zq_a, zq_b, zq_c, zq_d, zq_e, zq_f, zq_g, zq_h, zq_i, zq_j, zq_k, zq_l, zq_m, zq_n, zq_o, zq_p, zq_q, zq_r, zq_s, zq_t, zq_u, zq_v, zq_w, zq_x, zq_y, zq_z, zq_A, zq_B, zq_C, zq_D, zq_E, zq_F, zq_G, zq_H, zq_I, zq_J, zq_K, zq_L, ↓zq_M, ↓zq_N, ↓zq_O, ↓zq_P, ↓zq_Q, ↓zq_R, zq_S, zq_T, zq_U, zq_V, zq_W, zq_X, zq_Y, zq_Z, zq_0, zq_1, zq_2, zq_3, zq_4, zq_5, ↓zq_6, ↓zq_7, ↓zq_8, ↓zq_9, ↓zq_aa, zq_ab, zq_ac, zq_ad, zq_ae, zq_af, zq_ag, ↓zq_ah, ↓zq_ai, ↓zq_aj, zq_ak, ↓zq_al, ↓zq_am, e_b1, e_b2, x_o1, x_o2, bx_Gc, bx_Gd, w1, w2, w3, w4, t0, t1, t2, t3, t4, c, k']
end
section
/-! PUSH of CELLS on the bench: exactly -/
theorem bx_14 {j l : Nat} {x1 c s t a b : Int} {M : EM} (hx : x1 = ((6 * j + l : Nat) : Int)) (hl : 1 ≤ l) (hb6 : 6 * j + l < 240) (hs : M 177 (6 * j + l) = s) (ht : M 177 (6 * j + (l - 1)) = t) (ha : M 178 (6 * j + l) = a) (hb : M 178 (6 * j + (l - 1)) = b) (h1 : 0 ≤ t) (h2 : t ≤ s) (h3 : s ≤ 60) (h4 : 0 ≤ a) (h5 : a ≤ c) (h6 : c ≤ b) (h7 : b ≤ 99) : E_C 14 [170, x1, c] M = some (if b = a then s else s - ((s - t) * (c - a)).tdiv (b - a), M) := by
  have i1 : x1 - 1 = ((6 * j + (l - 1) : Nat) : Int) := by omega
  have t1 : E_C 146 [177, x1] M = some (s, M) := (w_atN (a := 177) (n := 240) (by decide +kernel) (j := 6 * j + l) hx hb6 M).trans (by rw [← hs]; rfl)
  have t2 : E_C 146 [177, x1 - 1] M = some (t, M) := (w_atN (a := 177) (n := 240) (by decide +kernel) (j := 6 * j + (l - 1)) i1 (by omega) M).trans (by rw [← ht]; rfl)
  have t3 : E_C 146 [178, x1] M = some (a, M) := (w_atN (a := 178) (n := 240) (by decide +kernel) (j := 6 * j + l) hx hb6 M).trans (by rw [← ha]; rfl)
  have t4 : E_C 146 [178, x1 - 1] M = some (b, M) := (w_atN (a := 178) (n := 240) (by decide +kernel) (j := 6 * j + (l - 1)) i1 (by omega) M).trans (by rw [← hb]; rfl)
  have w1 : e_w (x1 - 1) = x1 - 1 := a_w_id (by omega) (by omega)
  clear hs ht ha hb
  rw [r_ent (show e_rok 14 [170, x1, c] = true from bx_r (M := M) rfl (by decide +kernel))]
  show e_tv E_C (E_V 14) e_t14_0 [170, x1, c, 0, 0] M = _
  unfold e_t14_0
  by_cases e : b = a
  · have w2 : e_w (a - a) = 0 := by rw [Int.sub_self]; exact a_w_id (by omega) (by omega)
    rw [if_pos e]
    subst e
    have w3 : e_w 0 = 0 := a_w_id (by omega) (by omega)
    simp [zq_a, zq_b, zq_c, zq_d, zq_e, zq_f, zq_g, zq_h, zq_i, zq_j, zq_k, zq_l, zq_m, zq_n, zq_o, zq_p, zq_q, zq_r, zq_s, zq_t, zq_u, zq_v, zq_w, zq_x, zq_y, zq_z, zq_A, zq_B, zq_C, zq_D, zq_E, zq_F, zq_G, zq_H, zq_I, zq_J, zq_K, zq_L, ↓zq_M, ↓zq_N, ↓zq_O, ↓zq_P, ↓zq_Q, ↓zq_R, zq_S, zq_T, zq_U, zq_V, zq_W, zq_X, zq_Y, zq_Z, zq_0, zq_1, zq_2, zq_3, zq_4, zq_5, ↓zq_6, ↓zq_7, ↓zq_8, ↓zq_9, ↓zq_aa, zq_ab, zq_ac, zq_ad, zq_ae, zq_af, zq_ag, ↓zq_ah, ↓zq_ai, ↓zq_aj, zq_ak, ↓zq_al, ↓zq_am, e_b1, e_b2, x_o1, x_o2, bx_Ge, bx_Gf, w1, w2, w3, t1, t2, t3, t4]
  · have w3 := rx_ar (s := s) (t := t) (a := a) (b := b) (c := c) h1 h2 h3 h4 h5 h6 h7 (fun e2 => e e2.symm)
    have w4 : e_w (b - a) ≠ 0 := r_ne_w ⟨by omega, by omega⟩ ⟨by omega, by omega⟩ e
    rw [if_neg e, ← w3]
    simp [zq_a, zq_b, zq_c, zq_d, zq_e, zq_f, zq_g, zq_h, zq_i, zq_j, zq_k, zq_l, zq_m, zq_n, zq_o, zq_p, zq_q, zq_r, zq_s, zq_t, zq_u, zq_v, zq_w, zq_x, zq_y, zq_z, zq_A, zq_B, zq_C, zq_D, zq_E, zq_F, zq_G, zq_H, zq_I, zq_J, zq_K, zq_L, ↓zq_M, ↓zq_N, ↓zq_O, ↓zq_P, ↓zq_Q, ↓zq_R, zq_S, zq_T, zq_U, zq_V, zq_W, zq_X, zq_Y, zq_Z, zq_0, zq_1, zq_2, zq_3, zq_4, zq_5, ↓zq_6, ↓zq_7, ↓zq_8, ↓zq_9, ↓zq_aa, zq_ab, zq_ac, zq_ad, zq_ae, zq_af, zq_ag, ↓zq_ah, ↓zq_ai, ↓zq_aj, zq_ak, ↓zq_al, ↓zq_am, e_b1, e_b2, x_o1, x_o2, bx_Ge, bx_Gf, w1, t1, t2, t3, t4, w4]
theorem bx_60 {j n : Nat} {j0 c x3 x4 : Int} {P C : Nat → Int} {M : EM} (hj : j < 40) (hx3 : x3 = ((6 * j : Nat) : Int)) (hn : n ≤ 6) (hM : ∀ i, i < n → M 177 (6 * j + i) = P i ∧ M 178 (6 * j + i) = C i) (hb : ∀ i, i < n → (0 ≤ P i ∧ P i ≤ 60) ∧ 0 ≤ C i ∧ C i ≤ 99) (hm : ∀ i, i + 1 < n → P i ≤ P (i + 1)) : ∀ (l : Nat) (x5 : Int), x5 = ((6 * j + l : Nat) : Int) → l < n → E_V 13 60 [170, j0, c, x3, x4, x5] M = some (cu_sg P C c l, M) := by
  intro l
  induction l with
  | zero =>
    intro x5 hx hl
    have q : ¬ (x3 < x5) := by omega
    rw [E_V_eq]
    show e_tv E_C (E_V 13) e_t13_60 [170, j0, c, x3, x4, x5] M = _
    unfold e_t13_60
    simp [zq_a, zq_b, zq_c, zq_d, zq_e, zq_f, zq_g, zq_h, zq_i, zq_j, zq_k, zq_l, zq_m, zq_n, zq_o, zq_p, zq_q, zq_r, zq_s, zq_t, zq_u, zq_v, zq_w, zq_x, zq_y, zq_z, zq_A, zq_B, zq_C, zq_D, zq_E, zq_F, zq_G, zq_H, zq_I, zq_J, zq_K, zq_L, ↓zq_M, ↓zq_N, ↓zq_O, ↓zq_P, ↓zq_Q, ↓zq_R, zq_S, zq_T, zq_U, zq_V, zq_W, zq_X, zq_Y, zq_Z, zq_0, zq_1, zq_2, zq_3, zq_4, zq_5, ↓zq_6, ↓zq_7, ↓zq_8, ↓zq_9, ↓zq_aa, zq_ab, zq_ac, zq_ad, zq_ae, zq_af, zq_ag, ↓zq_ah, ↓zq_ai, ↓zq_aj, zq_ak, ↓zq_al, ↓zq_am, e_b1, e_b2, x_o1, x_o2, q, cu_sg]
  | succ l ih =>
    intro x5 hx hl
    have q : x3 < x5 := by omega
    have i1 : x5 - 1 = ((6 * j + l : Nat) : Int) := by omega
    obtain ⟨m1, m2⟩ := hM (l + 1) hl
    obtain ⟨m3, m4⟩ := hM l (by omega)
    obtain ⟨b1, b2⟩ := hb (l + 1) hl
    obtain ⟨b3, b4⟩ := hb l (by omega)
    have mm := hm l hl
    have t3 : E_C 146 [178, x5] M = some (C (l + 1), M) := (w_atN (a := 178) (n := 240) (by decide +kernel) (j := 6 * j + (l + 1)) hx (by omega) M).trans (by rw [← m2]; rfl)
    have t4 : E_C 146 [178, x5 - 1] M = some (C l, M) := (w_atN (a := 178) (n := 240) (by decide +kernel) (j := 6 * j + l) i1 (by omega) M).trans (by rw [← m4]; rfl)
    have kb : C (l + 1) ≤ c → c ≤ C l → E_C 14 [170, x5, c] M = some (cu_bt P C (l + 1) c, M) := fun h1 h2 => bx_14 (j := j) (l := l + 1) hx (by omega) (by omega) m1 m3 m2 m4 b3.1 mm b1.2 b2.1 h1 h2 b4.2
    have k := ih (x5 - 1) i1 (by omega)
    have esg : cu_sg P C c (l + 1) = if C (l + 1) ≤ c ∧ c ≤ C l then cu_bt P C (l + 1) c else cu_sg P C c l := rfl
    have w1 : e_w (x5 - 1) = x5 - 1 := a_w_id (by omega) (by omega)
    have w2 : e_w (x5 + -1) = x5 - 1 := (a_w_id (by omega) (by omega)).trans (by omega)
    rw [esg]
    clear esg ih hM hb hm m1 m2 m3 m4
    revert t3 t4 kb
    generalize cu_bt P C (l + 1) c = z
    generalize C (l + 1) = a
    generalize C l = b
    intro t3 t4 kb
    rw [E_V_eq]
    show e_tv E_C (E_V 13) e_t13_60 [170, j0, c, x3, x4, x5] M = _
    unfold e_t13_60
    rcases x_le a c with ⟨c1, c1_n⟩ | ⟨c1, c1_n⟩
    · rcases x_le c b with ⟨c2, c2_n⟩ | ⟨c2, c2_n⟩
      · have kb' := kb c1 c2
        rw [if_pos ⟨c1, c2⟩]
        simp [zq_a, zq_b, zq_c, zq_d, zq_e, zq_f, zq_g, zq_h, zq_i, zq_j, zq_k, zq_l, zq_m, zq_n, zq_o, zq_p, zq_q, zq_r, zq_s, zq_t, zq_u, zq_v, zq_w, zq_x, zq_y, zq_z, zq_A, zq_B, zq_C, zq_D, zq_E, zq_F, zq_G, zq_H, zq_I, zq_J, zq_K, zq_L, ↓zq_M, ↓zq_N, ↓zq_O, ↓zq_P, ↓zq_Q, ↓zq_R, zq_S, zq_T, zq_U, zq_V, zq_W, zq_X, zq_Y, zq_Z, zq_0, zq_1, zq_2, zq_3, zq_4, zq_5, ↓zq_6, ↓zq_7, ↓zq_8, ↓zq_9, ↓zq_aa, zq_ab, zq_ac, zq_ad, zq_ae, zq_af, zq_ag, ↓zq_ah, ↓zq_ai, ↓zq_aj, zq_ak, ↓zq_al, ↓zq_am, e_b1, e_b2, x_o1, x_o2, bx_Gf, q, w1, t3, t4, c1, c1_n, c2, c2_n, kb']
      · rw [if_neg (fun e => c2 e.2)]
        simp [zq_a, zq_b, zq_c, zq_d, zq_e, zq_f, zq_g, zq_h, zq_i, zq_j, zq_k, zq_l, zq_m, zq_n, zq_o, zq_p, zq_q, zq_r, zq_s, zq_t, zq_u, zq_v, zq_w, zq_x, zq_y, zq_z, zq_A, zq_B, zq_C, zq_D, zq_E, zq_F, zq_G, zq_H, zq_I, zq_J, zq_K, zq_L, ↓zq_M, ↓zq_N, ↓zq_O, ↓zq_P, ↓zq_Q, ↓zq_R, zq_S, zq_T, zq_U, zq_V, zq_W, zq_X, zq_Y, zq_Z, zq_0, zq_1, zq_2, zq_3, zq_4, zq_5, ↓zq_6, ↓zq_7, ↓zq_8, ↓zq_9, ↓zq_aa, zq_ab, zq_ac, zq_ad, zq_ae, zq_af, zq_ag, ↓zq_ah, ↓zq_ai, ↓zq_aj, zq_ak, ↓zq_al, ↓zq_am, e_b1, e_b2, x_o1, x_o2, bx_Gf, q, w1, w2, t3, t4, c1, c1_n, c2, c2_n, k]
    · rw [if_neg (fun e => c1 e.1)]
      simp [zq_a, zq_b, zq_c, zq_d, zq_e, zq_f, zq_g, zq_h, zq_i, zq_j, zq_k, zq_l, zq_m, zq_n, zq_o, zq_p, zq_q, zq_r, zq_s, zq_t, zq_u, zq_v, zq_w, zq_x, zq_y, zq_z, zq_A, zq_B, zq_C, zq_D, zq_E, zq_F, zq_G, zq_H, zq_I, zq_J, zq_K, zq_L, ↓zq_M, ↓zq_N, ↓zq_O, ↓zq_P, ↓zq_Q, ↓zq_R, zq_S, zq_T, zq_U, zq_V, zq_W, zq_X, zq_Y, zq_Z, zq_0, zq_1, zq_2, zq_3, zq_4, zq_5, ↓zq_6, ↓zq_7, ↓zq_8, ↓zq_9, ↓zq_aa, zq_ab, zq_ac, zq_ad, zq_ae, zq_af, zq_ag, ↓zq_ah, ↓zq_ai, ↓zq_aj, zq_ak, ↓zq_al, ↓zq_am, e_b1, e_b2, x_o1, x_o2, bx_Gf, q, w2, t3, c1, c1_n, k]
theorem bx_13 {j q n : Nat} {j0 c : Int} {P C : Nat → Int} {M : EM} (hj0 : j0 = j) (hj : j < 40) (hq : q < 40) (h174 : M 174 j = q) (h12 : M 12 q = n) (hn1 : 1 ≤ n) (hn : n ≤ 6) (hc : 0 ≤ c ∧ c ≤ 2000) (hM : ∀ i, i < n → M 177 (6 * j + i) = P i ∧ M 178 (6 * j + i) = C i) (hb : ∀ i, i < n → (0 ≤ P i ∧ P i ≤ 60) ∧ 0 ≤ C i ∧ C i ≤ 99) (hm : ∀ i, i + 1 < n → P i ≤ P (i + 1)) : E_C 13 [170, j0, c] M = some (cu_cp n P C c, M) := by
  have i0 : j0 * 6 = ((6 * j : Nat) : Int) := by omega
  have i5 : j0 * 6 + (n : Int) - 1 = ((6 * j + (n - 1) : Nat) : Int) := by omega
  have t0 : E_C 146 [178, j0 * 6] M = some (C 0, M) := (w_atN (a := 178) (n := 240) (by decide +kernel) (j := 6 * j + 0) i0 (by omega) M).trans (by rw [← (hM 0 (by omega)).2]; rfl)
  have t1 : E_C 146 [174, j0] M = some ((q : Int), M) := (w_atN (a := 174) (n := 40) (by decide +kernel) (j := j) hj0 hj M).trans (by rw [← h174]; rfl)
  have t2 : E_C 146 [12, (q : Int)] M = some ((n : Int), M) := (w_atN (a := 12) (n := 40) (by decide +kernel) (j := q) rfl hq M).trans (by rw [← h12]; rfl)
  have k := fun x4 => bx_60 (j0 := j0) (c := c) (x3 := j0 * 6) (x4 := x4) hj i0 hn hM hb hm (n - 1) (j0 * 6 + (n : Int) - 1) i5 (by omega)
  have b0 := (hb 0 (by omega)).2
  obtain ⟨qq, hqq⟩ : ∃ qq : Int, (q : Int) = qq := ⟨_, rfl⟩
  obtain ⟨nn, hnn⟩ : ∃ nn : Int, (n : Int) = nn := ⟨_, rfl⟩
  rw [hqq, hnn] at t2
  rw [hqq] at t1
  rw [hnn] at k
  have w1 : e_w (j0 * 6) = j0 * 6 := a_w_id (by omega) (by omega)
  have w2 : e_w (j0 * 6 + nn) = j0 * 6 + nn := a_w_id (by omega) (by omega)
  have w3 : e_w (j0 * 6 + nn - 1) = j0 * 6 + nn - 1 := a_w_id (by omega) (by omega)
  unfold cu_cp
  clear hM hb hm i5 i0 h174 h12 hqq hnn
  revert t0 k b0
  generalize cu_sg P C c (n - 1) = z
  generalize C 0 = a
  intro t0 b0 k
  have w4 : e_w (c - a) = c - a := a_w_id (by omega) (by omega)
  rw [r_ent (show e_rok 13 [170, j0, c] = true from bx_r (M := M) rfl (by decide +kernel))]
  show e_tv E_C (E_V 13) e_t13_0 [170, j0, c, 0, 0, 0] M = _
  unfold e_t13_0
  rcases x_lt a c with ⟨c1, c1_n⟩ | ⟨c1, c1_n⟩
  · have c1' : 0 < c - a := by omega
    have c1'' : ¬ (c - a ≤ 0) := by omega
    have w5 : e_w (2 * (c - a)) = 2 * (c - a) := a_w_id (by omega) (by omega)
    rw [if_pos c1]
    rcases x_lt 10 (c - a) with ⟨c2, c2_n⟩ | ⟨c2, c2_n⟩
    · rw [if_pos c2]
      have c3 : 20 < 2 * (c - a) := by omega
      have w6 : e_w (-20) = -20 := a_w_id (by omega) (by omega)
      simp [e_tv, e_ev, e_sv, e_b1, e_b2, x_o1, x_o2, bx_Gf, w1, w4, w5, w6, t0, c1', c1'', c3]
    · rw [if_neg c2, show -2 * (c - a) = -(2 * (c - a)) by omega]
      have c3 : ¬ (20 < 2 * (c - a)) := by omega
      have w6 : e_w (-(2 * (c - a))) = -(2 * (c - a)) := a_w_id (by omega) (by omega)
      simp [e_tv, e_ev, e_sv, e_b1, e_b2, x_o1, x_o2, bx_Gf, w1, w4, w5, w6, t0, c1', c1'', c3]
  · have c1' : ¬ (0 < c - a) := by omega
    have c1'' : c - a ≤ 0 := by omega
    rw [if_neg c1]
    have k' := k (c - a)
    simp [e_tv, e_ev, e_sv, e_b1, e_b2, x_o1, x_o2, bx_Gf, bx_Gb, bx_G3, w_H0, w_P2, w1, w2, w3, w4, t0, t1, t2, c1', c1'', k']
end
section
/-! the bench drawn: exactly -/
def bx_DC (g : Int → Int) (SH WM : Int → Int) (M M' : EM) (j : Nat) (q : Int) : Prop := (∀ c : Nat, c < 100 → M' 179 (40 * c + j) = cu_v g SH WM q (c : Int)) ∧ ∀ id k, ¬ ((id = 177 ∨ id = 178) ∧ 6 * j ≤ k ∧ k < 6 * j + 6) → ¬ (id = 179 ∧ k % 40 = j ∧ k < 4000) → M' id k = M id k
section BXD
variable {g : Int → Int} {SH WM : Int → Int}
/-- behind drawPoints a CELL's PUSH is known -/
theorem bx_pc {M N : EM} {j q : Nat} {j0 c : Int} (hj0 : j0 = j) (hj : j < 40) (hq : q < 40) (h174 : N 174 j = q) (h12 : N 12 q = M 12 q) (hd : hd_d0 M 0 g q) (hP : ∀ n : Nat, g (28 * (q : Int) + 2) = n → ∀ i, i < n → N 177 (6 * j + i) = cu_pv g (WM q) q i ∧ N 178 (6 * j + i) = cu_cv g (SH q) q i) (hs : 0 ≤ SH q ∧ SH q ≤ 100) (hw : 0 ≤ WM q ∧ WM q ≤ 100) (hc : 0 ≤ c ∧ c ≤ 2000) : E_C 13 [170, j0, c] N = some (cu_v g SH WM q c, N) := by
  obtain ⟨hv, d2, d3⟩ := hd
  obtain ⟨n, hn⟩ : ∃ n : Nat, g (28 * (q : Int) + 2) = n := by
    obtain ⟨n, h⟩ := hv
    exact ⟨n, h.2.2.1⟩
  obtain ⟨n2, n6, -, -, -, -⟩ := hd_cv_bd hv hn
  obtain ⟨v1, v2⟩ := cu_vok (s := SH q) (w := WM q) hv hn hs hw
  have d2' : M 12 q = g (28 * (q : Int) + 2) := d2
  have k := bx_13 (n := n) (P := cu_pv g (WM q) q) (C := cu_cv g (SH q) q) hj0 hj hq h174 (by rw [h12, d2', hn]) (by omega) n6 hc (hP n hn) v2 (fun i hi => (v1.2.2.2.2 i hi).1)
  unfold cu_v
  rw [hn, Int.toNat_natCast]
  exact k
theorem bx_10l {M N : EM} {j q : Nat} {j0 : Int} (hj0 : j0 = j) (hj : j < 40) (hq : q < 40) (h174 : N 174 j = q) (h12 : N 12 q = M 12 q) (hd : hd_d0 M 0 g q) (hP : ∀ n : Nat, g (28 * (q : Int) + 2) = n → ∀ i, i < n → N 177 (6 * j + i) = cu_pv g (WM q) q i ∧ N 178 (6 * j + i) = cu_cv g (SH q) q i) (hs : 0 ≤ SH q ∧ SH q ≤ 100) (hw : 0 ≤ WM q ∧ WM q ≤ 100) : ∀ (d c : Nat) (x2 : Int) (K : EM), x2 = c → c + d = 100 → (∀ c', c' < c → K 179 (40 * c' + j) = cu_v g SH WM q (c' : Int)) → (∀ id k, ¬ (id = 179 ∧ k % 40 = j ∧ k < 4000) → K id k = N id k) → ∃ K', E_V 10 7 [170, j0, x2] K = some (0, K') ∧ (∀ c', c' < 100 → K' 179 (40 * c' + j) = cu_v g SH WM q (c' : Int)) ∧ ∀ id k, ¬ (id = 179 ∧ k % 40 = j ∧ k < 4000) → K' id k = N id k := by
  intro d
  induction d with
  | zero =>
    intro c x2 K hx hc h1 h2
    have q2 : ¬ (x2 < 100) := by omega
    refine ⟨K, ?_, fun c' h => h1 c' (by omega), h2⟩
    rw [E_V_eq]
    show e_tv E_C (E_V 10) e_t10_7 [170, j0, x2] K = _
    unfold e_t10_7
    simp [zq_a, zq_b, zq_c, zq_d, zq_e, zq_f, zq_g, zq_h, zq_i, zq_j, zq_k, zq_l, zq_m, zq_n, zq_o, zq_p, zq_q, zq_r, zq_s, zq_t, zq_u, zq_v, zq_w, zq_x, zq_y, zq_z, zq_A, zq_B, zq_C, zq_D, zq_E, zq_F, zq_G, zq_H, zq_I, zq_J, zq_K, zq_L, ↓zq_M, ↓zq_N, ↓zq_O, ↓zq_P, ↓zq_Q, ↓zq_R, zq_S, zq_T, zq_U, zq_V, zq_W, zq_X, zq_Y, zq_Z, zq_0, zq_1, zq_2, zq_3, zq_4, zq_5, ↓zq_6, ↓zq_7, ↓zq_8, ↓zq_9, ↓zq_aa, zq_ab, zq_ac, zq_ad, zq_ae, zq_af, zq_ag, ↓zq_ah, ↓zq_ai, ↓zq_aj, zq_ak, ↓zq_al, ↓zq_am, e_b1, e_b2, x_o1, x_o2, q2]
  | succ d ih =>
    intro c x2 K hx hc h1 h2
    have q2 : x2 < 100 := by omega
    have i1 : x2 * 40 + j0 = ((40 * c + j : Nat) : Int) := by omega
    have i2 : 40 * c + j < 4040 := by omega
    have i3 : (40 * c + j) % 40 = j := by omega
    have i4 : 40 * c + j < 4000 := by omega
    have kp := bx_pc (c := x2) (M := M) (N := K) hj0 hj hq ((h2 _ _ (by omega)).trans h174) ((h2 _ _ (by omega)).trans h12) hd (fun n hn i hi => by
      obtain ⟨p1, p2⟩ := hP n hn i hi
      exact ⟨(h2 _ _ (by omega)).trans p1, (h2 _ _ (by omega)).trans p2⟩) hs hw ⟨by omega, by omega⟩
    have l := w_layN (a := 179) (i := x2 * 40 + j0) (n := 4040) (by decide +kernel) (j := 40 * c + j) i1 i2 (cu_v g SH WM q x2) K
    have l' : E_C 147 [179, x2 * 40 + j0, cu_v g SH WM q x2] K = some (0, e_up K 179 (40 * c + j) (cu_v g SH WM q x2)) := l
    obtain ⟨K', k, k2, k3⟩ := ih (c + 1) (x2 + 1) (e_up K 179 (40 * c + j) (cu_v g SH WM q x2)) (by omega) (by omega) (fun c' h => by
      by_cases e : c' = c
      · rw [e, c_up_s, hx]
      · rw [c_up_n (by omega)]
        exact h1 c' (by omega)) (fun id k h => by
      rw [c_up_n (fun e => h ⟨e.1, by rw [e.2]; exact i3, by rw [e.2]; exact i4⟩)]
      exact h2 id k h)
    refine ⟨K', ?_, k2, k3⟩
    clear ih h1 h2 k2 k3 hP hd
    have w1 : e_w (x2 * 40) = x2 * 40 := a_w_id (by omega) (by omega)
    have w2 : e_w (x2 * 40 + j0) = x2 * 40 + j0 := a_w_id (by omega) (by omega)
    have w3 : e_w (x2 + 1) = x2 + 1 := a_w_id (by omega) (by omega)
    rw [E_V_eq]
    show e_tv E_C (E_V 10) e_t10_7 [170, j0, x2] K = _
    unfold e_t10_7
    simp [zq_a, zq_b, zq_c, zq_d, zq_e, zq_f, zq_g, zq_h, zq_i, zq_j, zq_k, zq_l, zq_m, zq_n, zq_o, zq_p, zq_q, zq_r, zq_s, zq_t, zq_u, zq_v, zq_w, zq_x, zq_y, zq_z, zq_A, zq_B, zq_C, zq_D, zq_E, zq_F, zq_G, zq_H, zq_I, zq_J, zq_K, zq_L, ↓zq_M, ↓zq_N, ↓zq_O, ↓zq_P, ↓zq_Q, ↓zq_R, zq_S, zq_T, zq_U, zq_V, zq_W, zq_X, zq_Y, zq_Z, zq_0, zq_1, zq_2, zq_3, zq_4, zq_5, ↓zq_6, ↓zq_7, ↓zq_8, ↓zq_9, ↓zq_aa, zq_ab, zq_ac, zq_ad, zq_ae, zq_af, zq_ag, ↓zq_ah, ↓zq_ai, ↓zq_aj, zq_ak, ↓zq_al, ↓zq_am, e_b1, e_b2, x_o1, x_o2, bx_Gg, q2, w1, w2, w3, kp, l', k]
/-- one CELL's SHARE and WARM, from what is known of it -/
theorem bx_dp {M : EM} {j : Nat} {j0 : Int} (hj0 : j0 = j) (hj : j < 40) (h40 : g 1198 ≤ 40) (hd : ∀ q : Nat, (q : Int) < g 1198 → g (28 * (q : Int)) = 0 → hd_d0 M 0 g q) (hk : bx_kn g SH WM M j) : ∃ q : Nat, M 174 j = q ∧ q < 40 ∧ (0 ≤ SH q ∧ SH q ≤ 100) ∧ (0 ≤ WM q ∧ WM q ≤ 100) ∧ hd_d0 M 0 g q ∧ ∃ N, E_C 9 [170, j0] M = some (0, N) ∧ (∀ n : Nat, g (28 * (q : Int) + 2) = n → ∀ i, i < n → N 177 (6 * j + i) = cu_pv g (WM q) q i ∧ N 178 (6 * j + i) = cu_cv g (SH q) q i) ∧ ∀ id k, ¬ ((id = 177 ∨ id = 178) ∧ 6 * j ≤ k ∧ k < 6 * j + 6) → N id k = M id k := by
  obtain ⟨q, q1, q2, q3, q4, q5, q6⟩ := hk
  have dd := hd q q2 q3
  obtain ⟨n, hn⟩ : ∃ n : Nat, g (28 * (q : Int) + 2) = n := by
    obtain ⟨⟨n, h⟩, -⟩ := dd
    exact ⟨n, h.2.2.1⟩
  obtain ⟨s1, N, k, k2, k3⟩ := bx_9 hj0 hj (show q < 40 by omega) q1 dd hn q4
  have a3 := q4 3 (by decide)
  rw [q5] at s1 k2
  rw [q6] at a3 k2
  refine ⟨q, q1, by omega, s1, a3, dd, N, k, fun m hm i hi => ?_, k3⟩
  exact k2 i (by omega)
theorem bx_10 {M : EM} {j : Nat} {j0 : Int} (hj0 : j0 = j) (hj : j < 40) (h40 : g 1198 ≤ 40) (hd : ∀ q : Nat, (q : Int) < g 1198 → g (28 * (q : Int)) = 0 → hd_d0 M 0 g q) (hk : bx_kn g SH WM M j) : ∃ M', E_C 10 [170, j0] M = some (0, M') ∧ bx_DC g SH WM M M' j (M 174 j) := by
  obtain ⟨q, q1, q2, s, w, dd, N, k, k2, k3⟩ := bx_dp hj0 hj h40 hd hk
  obtain ⟨K', z, z2, z3⟩ := bx_10l (M := M) (N := N) hj0 hj q2 ((k3 _ _ (by omega)).trans q1) (k3 _ _ (by omega)) dd k2 s w 100 0 0 N rfl rfl (fun c' h => absurd h (Nat.not_lt_zero _)) (fun _ _ _ => rfl)
  refine ⟨K', ?_, by rw [q1]; exact z2, fun id k h1 h2 => (z3 id k h2).trans (k3 id k h1)⟩
  rw [r_ent (show e_rok 10 [170, j0] = true from bx_r (M := M) rfl (by decide +kernel))]
  show e_tv E_C (E_V 10) e_t10_0 [170, j0, 0] M = _
  unfold e_t10_0
  simp [zq_a, zq_b, zq_c, zq_d, zq_e, zq_f, zq_g, zq_h, zq_i, zq_j, zq_k, zq_l, zq_m, zq_n, zq_o, zq_p, zq_q, zq_r, zq_s, zq_t, zq_u, zq_v, zq_w, zq_x, zq_y, zq_z, zq_A, zq_B, zq_C, zq_D, zq_E, zq_F, zq_G, zq_H, zq_I, zq_J, zq_K, zq_L, ↓zq_M, ↓zq_N, ↓zq_O, ↓zq_P, ↓zq_Q, ↓zq_R, zq_S, zq_T, zq_U, zq_V, zq_W, zq_X, zq_Y, zq_Z, zq_0, zq_1, zq_2, zq_3, zq_4, zq_5, ↓zq_6, ↓zq_7, ↓zq_8, ↓zq_9, ↓zq_aa, zq_ab, zq_ac, zq_ad, zq_ae, zq_af, zq_ag, ↓zq_ah, ↓zq_ai, ↓zq_aj, zq_ak, ↓zq_al, ↓zq_am, e_b1, e_b2, x_o1, x_o2, k, z]
theorem bx_kn_cg {M N : EM} {j : Nat} (h : bx_kn g SH WM M j) (e : ∀ id k, 174 ≤ id → id ≤ 176 → N id k = M id k) : bx_kn g SH WM N j := by
  obtain ⟨q, q1, q2, q3, q4, q5, q6⟩ := h
  refine ⟨q, (e _ _ (by decide) (by decide)).trans q1, q2, q3, fun a ha => by rw [e _ _ (by decide) (by decide)]; exact q4 a ha, ?_, (e _ _ (by decide) (by decide)).trans q6⟩
  unfold bx_sh at q5 ⊢
  rw [e 176 _ (by decide) (by decide), e 175 _ (by decide) (by decide), e 175 _ (by decide) (by decide), e 175 _ (by decide) (by decide)]
  exact q5
theorem bx_d0_cg {M N : EM} (e : ∀ id, id < 162 → N id = M id) {q : Nat} (h : hd_d0 M 0 g q) : hd_d0 N 0 g q := by
  unfold hd_d0 at h ⊢
  rw [e (12 + 0) (by decide), e (19 + 0) (by decide), e (20 + 0) (by decide)]
  exact h
theorem bx_11 {M : EM} {n : Nat} (hn : M 170 0 = n) (hn40 : n ≤ 40) (h40 : g 1198 ≤ 40) (hd : ∀ q : Nat, (q : Int) < g 1198 → g (28 * (q : Int)) = 0 → hd_d0 M 0 g q) (hk : ∀ j, j < n → bx_kn g SH WM M j) : ∃ M', E_C 11 [170] M = some (0, M') ∧ (∀ j c : Nat, j < n → c < 100 → M' 179 (40 * c + j) = cu_v g SH WM (M 174 j) (c : Int)) ∧ ∀ id k, ¬ (177 ≤ id ∧ id ≤ 179) → M' id k = M id k := by
  have lp : ∀ (d j : Nat) (x1 : Int) (N : EM), x1 = j → j + d = n → (∀ j' c : Nat, j' < j → c < 100 → N 179 (40 * c + j') = cu_v g SH WM (M 174 j') (c : Int)) → (∀ id k, ¬ (177 ≤ id ∧ id ≤ 179) → N id k = M id k) → ∃ M', E_V 11 2 [170, x1] N = some (0, M') ∧ (∀ j c : Nat, j < n → c < 100 → M' 179 (40 * c + j) = cu_v g SH WM (M 174 j) (c : Int)) ∧ ∀ id k, ¬ (177 ≤ id ∧ id ≤ 179) → M' id k = M id k := by
    intro d
    induction d with
    | zero =>
      intro j x1 N hx hj h1 h2
      have z := (h2 170 0 (by decide)).trans hn
      obtain ⟨nn, hnn⟩ : ∃ nn : Int, (n : Int) = nn := ⟨_, rfl⟩
      rw [hnn] at z
      have q : ¬ (x1 < nn) := by omega
      refine ⟨N, ?_, fun j' c hj' hc => h1 j' c (by omega) hc, h2⟩
      rw [E_V_eq]
      show e_tv E_C (E_V 11) e_t11_2 [170, x1] N = _
      unfold e_t11_2
      simp [zq_a, zq_b, zq_c, zq_d, zq_e, zq_f, zq_g, zq_h, zq_i, zq_j, zq_k, zq_l, zq_m, zq_n, zq_o, zq_p, zq_q, zq_r, zq_s, zq_t, zq_u, zq_v, zq_w, zq_x, zq_y, zq_z, zq_A, zq_B, zq_C, zq_D, zq_E, zq_F, zq_G, zq_H, zq_I, zq_J, zq_K, zq_L, ↓zq_M, ↓zq_N, ↓zq_O, ↓zq_P, ↓zq_Q, ↓zq_R, zq_S, zq_T, zq_U, zq_V, zq_W, zq_X, zq_Y, zq_Z, zq_0, zq_1, zq_2, zq_3, zq_4, zq_5, ↓zq_6, ↓zq_7, ↓zq_8, ↓zq_9, ↓zq_aa, zq_ab, zq_ac, zq_ad, zq_ae, zq_af, zq_ag, ↓zq_ah, ↓zq_ai, ↓zq_aj, zq_ak, ↓zq_al, ↓zq_am, e_b1, e_b2, x_o1, x_o2, bx_F0, z, q]
    | succ d ih =>
      intro j x1 N hx hj h1 h2
      have z := (h2 170 0 (by decide)).trans hn
      obtain ⟨nn, hnn⟩ : ∃ nn : Int, (n : Int) = nn := ⟨_, rfl⟩
      rw [hnn] at z
      have q : x1 < nn := by omega
      obtain ⟨N1, k, k2, k3⟩ := bx_10 (M := N) hx (by omega) h40 (fun q hq h0 => bx_d0_cg (fun id hid => funext fun k => h2 _ _ (by omega)) (hd q hq h0)) (bx_kn_cg (hk j (by omega)) (fun id k a b => h2 _ _ (by omega)))
      obtain ⟨M', m, m2, m3⟩ := ih (j + 1) (x1 + 1) N1 (by omega) (by omega) (fun j' c hj' hc => by
        by_cases e : j' = j
        · subst e
          rw [k2 c hc, h2 174 _ (by decide)]
        · rw [k3 _ _ (by omega) (fun e2 => by
            have := e2.2.1
            omega)]
          exact h1 j' c (by omega) hc) (fun id k h => (k3 _ _ (by omega) (by omega)).trans (h2 id k h))
      refine ⟨M', ?_, m2, m3⟩
      clear ih h1 h2 k2 k3 m2 m3 hd hk
      have w : e_w (x1 + 1) = x1 + 1 := a_w_id (by omega) (by omega)
      rw [E_V_eq]
      show e_tv E_C (E_V 11) e_t11_2 [170, x1] N = _
      unfold e_t11_2
      simp [zq_a, zq_b, zq_c, zq_d, zq_e, zq_f, zq_g, zq_h, zq_i, zq_j, zq_k, zq_l, zq_m, zq_n, zq_o, zq_p, zq_q, zq_r, zq_s, zq_t, zq_u, zq_v, zq_w, zq_x, zq_y, zq_z, zq_A, zq_B, zq_C, zq_D, zq_E, zq_F, zq_G, zq_H, zq_I, zq_J, zq_K, zq_L, ↓zq_M, ↓zq_N, ↓zq_O, ↓zq_P, ↓zq_Q, ↓zq_R, zq_S, zq_T, zq_U, zq_V, zq_W, zq_X, zq_Y, zq_Z, zq_0, zq_1, zq_2, zq_3, zq_4, zq_5, ↓zq_6, ↓zq_7, ↓zq_8, ↓zq_9, ↓zq_aa, zq_ab, zq_ac, zq_ad, zq_ae, zq_af, zq_ag, ↓zq_ah, ↓zq_ai, ↓zq_aj, zq_ak, ↓zq_al, ↓zq_am, e_b1, e_b2, x_o1, x_o2, bx_F0, z, q, w, k, m]
  obtain ⟨M', k, kk⟩ := lp n 0 0 M rfl (by omega) (fun j' c h => absurd h (Nat.not_lt_zero _)) (fun _ _ _ => rfl)
  refine ⟨M', ?_, kk⟩
  rw [r_ent (show e_rok 11 [170] = true from bx_r (M := M) rfl (by decide +kernel))]
  show e_tv E_C (E_V 11) e_t11_0 [170, 0] M = _
  unfold e_t11_0
  simp [zq_a, zq_b, zq_c, zq_d, zq_e, zq_f, zq_g, zq_h, zq_i, zq_j, zq_k, zq_l, zq_m, zq_n, zq_o, zq_p, zq_q, zq_r, zq_s, zq_t, zq_u, zq_v, zq_w, zq_x, zq_y, zq_z, zq_A, zq_B, zq_C, zq_D, zq_E, zq_F, zq_G, zq_H, zq_I, zq_J, zq_K, zq_L, ↓zq_M, ↓zq_N, ↓zq_O, ↓zq_P, ↓zq_Q, ↓zq_R, zq_S, zq_T, zq_U, zq_V, zq_W, zq_X, zq_Y, zq_Z, zq_0, zq_1, zq_2, zq_3, zq_4, zq_5, ↓zq_6, ↓zq_7, ↓zq_8, ↓zq_9, ↓zq_aa, zq_ab, zq_ac, zq_ad, zq_ae, zq_af, zq_ag, ↓zq_ah, ↓zq_ai, ↓zq_aj, zq_ak, ↓zq_al, ↓zq_am, e_b1, e_b2, x_o1, x_o2, k]
/-- the column behind all others -/
theorem bx_12 {M : EM} {n : Nat} {c : Int} (hc : 0 ≤ c ∧ c ≤ 2000) (hn : M 170 0 = n) (hn40 : n ≤ 40) (h40 : g 1198 ≤ 40) (hd : ∀ q : Nat, (q : Int) < g 1198 → g (28 * (q : Int)) = 0 → hd_d0 M 0 g q) (hk : ∀ j, j < n → bx_kn g SH WM M j) : ∃ M', E_C 12 [170, c] M = some (0, M') ∧ (∀ j : Nat, j < n → M' 179 (4000 + j) = cu_v g SH WM (M 174 j) c ∧ M' 178 (6 * j) = cu_cv g (SH (M 174 j)) (M 174 j) 0) ∧ ∀ id k, ¬ (177 ≤ id ∧ id ≤ 179) → M' id k = M id k := by
  have lp : ∀ (d j : Nat) (x2 : Int) (N : EM), x2 = j → j + d = n → (∀ j' : Nat, j' < j → N 179 (4000 + j') = cu_v g SH WM (M 174 j') c ∧ N 178 (6 * j') = cu_cv g (SH (M 174 j')) (M 174 j') 0) → (∀ id k, ¬ (177 ≤ id ∧ id ≤ 179) → N id k = M id k) → ∃ M', E_V 12 2 [170, c, x2] N = some (0, M') ∧ (∀ j : Nat, j < n → M' 179 (4000 + j) = cu_v g SH WM (M 174 j) c ∧ M' 178 (6 * j) = cu_cv g (SH (M 174 j)) (M 174 j) 0) ∧ ∀ id k, ¬ (177 ≤ id ∧ id ≤ 179) → M' id k = M id k := by
    intro d
    induction d with
    | zero =>
      intro j x2 N hx hj h1 h2
      have z := (h2 170 0 (by decide)).trans hn
      obtain ⟨nn, hnn⟩ : ∃ nn : Int, (n : Int) = nn := ⟨_, rfl⟩
      rw [hnn] at z
      have q : ¬ (x2 < nn) := by omega
      refine ⟨N, ?_, fun j' hj' => h1 j' (by omega), h2⟩
      rw [E_V_eq]
      show e_tv E_C (E_V 12) e_t12_2 [170, c, x2] N = _
      unfold e_t12_2
      simp [zq_a, zq_b, zq_c, zq_d, zq_e, zq_f, zq_g, zq_h, zq_i, zq_j, zq_k, zq_l, zq_m, zq_n, zq_o, zq_p, zq_q, zq_r, zq_s, zq_t, zq_u, zq_v, zq_w, zq_x, zq_y, zq_z, zq_A, zq_B, zq_C, zq_D, zq_E, zq_F, zq_G, zq_H, zq_I, zq_J, zq_K, zq_L, ↓zq_M, ↓zq_N, ↓zq_O, ↓zq_P, ↓zq_Q, ↓zq_R, zq_S, zq_T, zq_U, zq_V, zq_W, zq_X, zq_Y, zq_Z, zq_0, zq_1, zq_2, zq_3, zq_4, zq_5, ↓zq_6, ↓zq_7, ↓zq_8, ↓zq_9, ↓zq_aa, zq_ab, zq_ac, zq_ad, zq_ae, zq_af, zq_ag, ↓zq_ah, ↓zq_ai, ↓zq_aj, zq_ak, ↓zq_al, ↓zq_am, e_b1, e_b2, x_o1, x_o2, bx_F0, z, q]
    | succ d ih =>
      intro j x2 N hx hj h1 h2
      have z := (h2 170 0 (by decide)).trans hn
      obtain ⟨nn, hnn⟩ : ∃ nn : Int, (n : Int) = nn := ⟨_, rfl⟩
      rw [hnn] at z
      have q : x2 < nn := by omega
      have e : ∀ id, id < 162 → N id = M id := fun id hid => funext fun k => h2 _ _ (by omega)
      obtain ⟨q0, q1, q2, s, w, dd, N1, k, k2, k3⟩ := bx_dp (M := N) hx (by omega) h40 (fun q hq h0 => bx_d0_cg e (hd q hq h0)) (bx_kn_cg (hk j (by omega)) (fun id k a b => h2 _ _ (by omega)))
      have q1' : M 174 j = q0 := (h2 _ _ (by decide)).symm.trans q1
      have kp := bx_pc (c := c) (M := N) (N := N1) hx (by omega) q2 ((k3 _ _ (by omega)).trans q1) (k3 _ _ (by omega)) dd k2 s w hc
      have i1 : 4000 + x2 = ((4000 + j : Nat) : Int) := by omega
      have l := w_layN (a := 179) (i := 4000 + x2) (n := 4040) (by decide +kernel) (j := 4000 + j) i1 (by omega) (cu_v g SH WM q0 c) N1
      have l' : E_C 147 [179, 4000 + x2, cu_v g SH WM q0 c] N1 = some (0, e_up N1 179 (4000 + j) (cu_v g SH WM q0 c)) := l
      obtain ⟨M', m, m2, m3⟩ := ih (j + 1) (x2 + 1) (e_up N1 179 (4000 + j) (cu_v g SH WM q0 c)) (by omega) (by omega) (fun j' hj' => by
        by_cases e : j' = j
        · subst e
          obtain ⟨n', hn'⟩ : ∃ n' : Nat, g (28 * (q0 : Int) + 2) = n' := by
            obtain ⟨⟨n', h⟩, -⟩ := dd
            exact ⟨n', h.2.2.1⟩
          have n2 := (hd_cv_bd dd.1 hn').1
          rw [q1']
          refine ⟨c_up_s, ?_⟩
          rw [c_up_n (by omega)]
          exact (k2 n' hn' 0 (by omega)).2
        · obtain ⟨z1, z2⟩ := h1 j' (by omega)
          refine ⟨?_, ?_⟩
          · rw [c_up_n (by omega), k3 _ _ (by omega)]; exact z1
          · rw [c_up_n (by omega), k3 _ _ (by omega)]; exact z2) (fun id k h => by
        rw [c_up_n (by omega), k3 _ _ (by omega)]
        exact h2 id k h)
      refine ⟨M', ?_, m2, m3⟩
      clear ih h1 h2 k2 k3 m2 m3 hd hk dd
      have w1 : e_w (x2 + 1) = x2 + 1 := a_w_id (by omega) (by omega)
      have w2 : e_w (4000 + x2) = 4000 + x2 := a_w_id (by omega) (by omega)
      rw [E_V_eq]
      show e_tv E_C (E_V 12) e_t12_2 [170, c, x2] N = _
      unfold e_t12_2
      simp [zq_a, zq_b, zq_c, zq_d, zq_e, zq_f, zq_g, zq_h, zq_i, zq_j, zq_k, zq_l, zq_m, zq_n, zq_o, zq_p, zq_q, zq_r, zq_s, zq_t, zq_u, zq_v, zq_w, zq_x, zq_y, zq_z, zq_A, zq_B, zq_C, zq_D, zq_E, zq_F, zq_G, zq_H, zq_I, zq_J, zq_K, zq_L, ↓zq_M, ↓zq_N, ↓zq_O, ↓zq_P, ↓zq_Q, ↓zq_R, zq_S, zq_T, zq_U, zq_V, zq_W, zq_X, zq_Y, zq_Z, zq_0, zq_1, zq_2, zq_3, zq_4, zq_5, ↓zq_6, ↓zq_7, ↓zq_8, ↓zq_9, ↓zq_aa, zq_ab, zq_ac, zq_ad, zq_ae, zq_af, zq_ag, ↓zq_ah, ↓zq_ai, ↓zq_aj, zq_ak, ↓zq_al, ↓zq_am, e_b1, e_b2, x_o1, x_o2, bx_F0, bx_Gg, z, q, w1, w2, k, kp, l', m]
  obtain ⟨M', k, kk⟩ := lp n 0 0 M rfl (by omega) (fun j' h => absurd h (Nat.not_lt_zero _)) (fun _ _ _ => rfl)
  refine ⟨M', ?_, kk⟩
  rw [r_ent (show e_rok 12 [170, c] = true from bx_r (M := M) rfl (by decide +kernel))]
  show e_tv E_C (E_V 12) e_t12_0 [170, c, 0] M = _
  unfold e_t12_0
  simp [zq_a, zq_b, zq_c, zq_d, zq_e, zq_f, zq_g, zq_h, zq_i, zq_j, zq_k, zq_l, zq_m, zq_n, zq_o, zq_p, zq_q, zq_r, zq_s, zq_t, zq_u, zq_v, zq_w, zq_x, zq_y, zq_z, zq_A, zq_B, zq_C, zq_D, zq_E, zq_F, zq_G, zq_H, zq_I, zq_J, zq_K, zq_L, ↓zq_M, ↓zq_N, ↓zq_O, ↓zq_P, ↓zq_Q, ↓zq_R, zq_S, zq_T, zq_U, zq_V, zq_W, zq_X, zq_Y, zq_Z, zq_0, zq_1, zq_2, zq_3, zq_4, zq_5, ↓zq_6, ↓zq_7, ↓zq_8, ↓zq_9, ↓zq_aa, zq_ab, zq_ac, zq_ad, zq_ae, zq_af, zq_ag, ↓zq_ah, ↓zq_ai, ↓zq_aj, zq_ak, ↓zq_al, ↓zq_am, e_b1, e_b2, x_o1, x_o2, k]
end BXD
end
