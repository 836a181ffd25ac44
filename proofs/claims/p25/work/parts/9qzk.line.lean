section
/-! the class spreads a line of a PART out: exactly -/
def bx_nc (g : Int → Int) (x : Int) : Nat := if g (28 * x) = 0 then 1 else (g (28 * x + 2)).toNat
def bx_ng (g : Int → Int) (x : Int) : Nat := if g (28 * x) = 0 then 1 else (g (28 * x + 19)).toNat
def bx_ce (g : Int → Int) (x : Int) (k : Nat) : Int := if g (28 * x) = 0 then x else g (28 * x + 3 + (k : Int))
def bx_gr (g : Int → Int) (x : Int) (k : Nat) : Int := if g (28 * x) = 0 then 0 else g (28 * x + 11 + (k : Int))
def bx_di (g : Int → Int) (x : Int) (y : Nat) : Int := if g (28 * x) = 0 then 0 else g (28 * x + 20 + (y : Int))
/-- what a line leaves alone -/
def bx_fr (M M' : EM) (j0 g0 g1 l0 : Nat) : Prop := (∀ id k, ¬ (170 ≤ id ∧ id ≤ 176) → M' id k = M id k) ∧ (∀ k, k ≠ 0 → k ≠ 4 → k ≠ 5 → M' 170 k = M 170 k) ∧ (∀ k, k ≠ l0 + 1 → M' 171 k = M 171 k) ∧ (∀ k, (k < g0 ∨ g1 ≤ k) → M' 172 k = M 172 k) ∧ (∀ k, k < j0 → M' 173 k = M 173 k ∧ M' 174 k = M 174 k ∧ M' 176 k = M 176 k) ∧ ∀ k, k < 4 * j0 → M' 175 k = M 175 k
def bx_AL (g : Int → Int) (M M' : EM) (x : Int) (j0 g0 l0 : Nat) : Prop := M' 170 0 = ((j0 + bx_nc g x : Nat) : Int) ∧ M' 170 4 = ((g0 + bx_ng g x : Nat) : Int) ∧ M' 170 5 = ((l0 + 1 : Nat) : Int) ∧ M' 171 (l0 + 1) = ((j0 + bx_nc g x : Nat) : Int) ∧ (∀ k, k < bx_nc g x → bx_cell M M' (j0 + k) (bx_ce g x k).toNat ((g0 : Int) + bx_gr g x k)) ∧ (∀ y, y < bx_ng g x → M' 172 (g0 + y) = bx_di g x y) ∧ bx_fr M M' j0 g0 (g0 + bx_ng g x) l0
theorem bx_140 {x x2 x3 x4 x5 x6 : Int} {l0 : Nat} {c : Int} {M : EM} (hl : M 170 5 = l0) (h6 : l0 < 6) (h0 : M 170 0 = c) : E_V 4 140 [170, x, x2, x3, x4, x5, x6] M = some (0, e_up (e_up M 170 5 ((l0 : Int) + 1)) 171 (l0 + 1) c) := by
  have w : e_w ((l0 : Int) + 1) = (l0 : Int) + 1 := a_w_id (by omega) (by omega)
  have l := fun v M => w_layN (a := 171) (i := (l0 : Int) + 1) (n := 7) (by decide +kernel) (j := l0 + 1) (by omega) (by omega) v M
  have l' : ∀ v M, E_C 147 [171, (l0 : Int) + 1, v] M = some (0, e_up M 171 (l0 + 1) v) := l
  rw [E_V_eq]
  show e_tv E_C (E_V 4) e_t4_140 [170, x, x2, x3, x4, x5, x6] M = _
  unfold e_t4_140
  simp [zq_a, zq_b, zq_c, zq_d, zq_e, zq_f, zq_g, zq_h, zq_i, zq_j, zq_k, zq_l, zq_m, zq_n, zq_o, zq_p, zq_q, zq_r, zq_s, zq_t, zq_u, zq_v, zq_w, zq_x, zq_y, zq_z, zq_A, zq_B, zq_C, zq_D, zq_E, zq_F, zq_G, zq_H, zq_I, zq_J, zq_K, zq_L, ↓zq_M, ↓zq_N, ↓zq_O, ↓zq_P, ↓zq_Q, ↓zq_R, zq_S, zq_T, zq_U, zq_V, zq_W, zq_X, zq_Y, zq_Z, zq_0, zq_1, zq_2, zq_3, zq_4, zq_5, ↓zq_6, ↓zq_7, ↓zq_8, ↓zq_9, ↓zq_aa, zq_ab, zq_ac, zq_ad, zq_ae, zq_af, zq_ag, ↓zq_ah, ↓zq_ai, ↓zq_aj, zq_ak, ↓zq_al, ↓zq_am, e_b1, e_b2, x_o1, x_o2, bx_F0, bx_F5, bx_P5, bx_G8, hl, h0, w, l', c_up_n, c_up_s]
/-- k CELLS of a ROW stand -/
def bx_RS (g : Int → Int) (M0 M : EM) (x j0 g0 g1 k : Nat) : Prop := M 170 0 = ((j0 + k : Nat) : Int) ∧ (∀ i : Nat, i < k → bx_cell M0 M (j0 + i) (g (28 * (x : Int) + 3 + (i : Int))).toNat ((g0 : Int) + g (28 * (x : Int) + 11 + (i : Int)))) ∧ (∀ i : Nat, i < k → M 172 (g0 + (g (28 * (x : Int) + 11 + (i : Int))).toNat) = g (28 * (x : Int) + 20 + g (28 * (x : Int) + 11 + (i : Int)))) ∧ (∀ id i, ¬ (170 ≤ id ∧ id ≤ 176) → M id i = M0 id i) ∧ (∀ i, i ≠ 0 → M 170 i = M0 170 i) ∧ (∀ i, M 171 i = M0 171 i) ∧ (∀ i, (i < g0 ∨ g1 ≤ i) → M 172 i = M0 172 i) ∧ (∀ i, i < j0 → M 173 i = M0 173 i ∧ M 174 i = M0 174 i ∧ M 176 i = M0 176 i) ∧ ∀ i, i < 4 * j0 → M 175 i = M0 175 i
theorem bx_53 {g : Int → Int} {M0 : EM} {x j0 g0 n gr : Nat} (hd : hd_d1 M0 0 g x n gr) (hx : x < 40) (hj : j0 + n ≤ 40) (hg : g0 + gr ≤ 40) (h4 : M0 170 4 = g0) {x0 n0 : Int} (hx0 : x0 = x) (hn0 : n0 = n) : ∀ (d k : Nat) (x4 x5 x6 : Int) (M : EM), x4 = k → k + d = n → bx_RS g M0 M x j0 g0 (g0 + gr) k → ∃ M' y4 y5 y6, E_V 4 53 [170, x0, 10, n0, x4, x5, x6] M = E_V 4 140 [170, x0, 10, n0, y4, y5, y6] (e_up M' 170 4 ((g0 + gr : Nat) : Int)) ∧ bx_RS g M0 M' x j0 g0 (g0 + gr) n := by
  obtain ⟨⟨n1, n2, n3⟩, b1, b2, b3, b4, b5, b6⟩ := hd
  intro d
  induction d with
  | zero =>
    intro k x4 x5 x6 M hk hd hR
    have e : k = n := by omega
    subst e
    have q : ¬ (x4 < n0) := by omega
    have h4' : M 170 4 = g0 := (hR.2.2.2.2.1 4 (by decide)).trans h4
    have t12 := w_atN (a := 12) (i := x0) (n := 40) (by decide +kernel) (j := x) hx0 hx M
    have t12' : E_C 146 [12, x0] M = some ((gr : Int), M) := t12.trans (by rw [show M (12 : Int).toNat x = M0 (12 + 0) x from hR.2.2.2.1 _ _ (by omega), b4])
    have w : e_w ((g0 : Int) + (gr : Int)) = ((g0 + gr : Nat) : Int) := (a_w_id (by omega) (by omega)).trans (by omega)
    refine ⟨M, x4, x5, x6, ?_, hR⟩
    generalize ((g0 + gr : Nat) : Int) = gg at w ⊢
    rw [E_V_eq]
    show e_tv E_C (E_V 4) e_t4_53 [170, x0, 10, n0, x4, x5, x6] M = _
    unfold e_t4_53
    simp [zq_a, zq_b, zq_c, zq_d, zq_e, zq_f, zq_g, zq_h, zq_i, zq_j, zq_k, zq_l, zq_m, zq_n, zq_o, zq_p, zq_q, zq_r, zq_s, zq_t, zq_u, zq_v, zq_w, zq_x, zq_y, zq_z, zq_A, zq_B, zq_C, zq_D, zq_E, zq_F, zq_G, zq_H, zq_I, zq_J, zq_K, zq_L, ↓zq_M, ↓zq_N, ↓zq_O, ↓zq_P, ↓zq_Q, ↓zq_R, zq_S, zq_T, zq_U, zq_V, zq_W, zq_X, zq_Y, zq_Z, zq_0, zq_1, zq_2, zq_3, zq_4, zq_5, ↓zq_6, ↓zq_7, ↓zq_8, ↓zq_9, ↓zq_aa, zq_ab, zq_ac, zq_ad, zq_ae, zq_af, zq_ag, ↓zq_ah, ↓zq_ai, ↓zq_aj, zq_ak, ↓zq_al, ↓zq_am, e_b1, e_b2, x_o1, x_o2, bx_F4, bx_P4, w_P2, q, h4', t12', w]
  | succ d ih =>
    intro k x4 x5 x6 M hk hd hR
    obtain ⟨r1, r2, r3, r4, r5, r6, r7, r8, r9⟩ := hR
    have hkn : k < n := by omega
    obtain ⟨⟨m1, m2, m3, m4, m5⟩, c2, c3, c4, c5⟩ := b6 k hkn
    have q : x4 < n0 := by omega
    have h4' : M 170 4 = g0 := (r5 4 (by decide)).trans h4
    have G0 : 0 ≤ g (28 * (x : Int) + 11 + (k : Int)) := by
      obtain ⟨y, y1, -, -⟩ := cu_st_in (v := fun _ => 0) (D := fun _ => 0) b5 k hkn
      have y1 : g (28 * (x : Int) + 11 + (k : Int)) = y := y1
      omega
    have G1 : g (28 * (x : Int) + 11 + (k : Int)) < gr := cu_gp_lt b5 k hkn
    obtain ⟨y, hy⟩ : ∃ y : Nat, g (28 * (x : Int) + 11 + (k : Int)) = y := ⟨(g (28 * (x : Int) + 11 + (k : Int))).toNat, by omega⟩
    obtain ⟨q1, hq1⟩ : ∃ q1 : Nat, g (28 * (x : Int) + 3 + (k : Int)) = q1 := ⟨(g (28 * (x : Int) + 3 + (k : Int))).toNat, by omega⟩
    have i1 : x0 * 8 + x4 = ((8 * x + k : Nat) : Int) := by omega
    have i2 : 8 * x + k < 320 := by omega
    have i3 : g0 + y < 40 := by omega
    have i4 : j0 + k < 40 := by omega
    have i5 : q1 < 40 := by omega
    have k15 : ∀ M : EM, (∀ id i, ¬ (170 ≤ id ∧ id ≤ 176) → M id i = M0 id i) → E_C 146 [15, x0 * 8 + x4] M = some ((q1 : Int), M) := fun M h => by
      have t := w_atN (a := 15) (i := x0 * 8 + x4) (n := 320) (by decide +kernel) (j := 8 * x + k) i1 i2 M
      exact t.trans (by rw [show M (15 : Int).toNat (8 * x + k) = M0 (15 + 0) (8 * x + k) from h _ _ (by omega), m1, hq1])
    have k16 : E_C 146 [16, x0 * 8 + x4] M = some ((y : Int), M) := by
      have t := w_atN (a := 16) (i := x0 * 8 + x4) (n := 320) (by decide +kernel) (j := 8 * x + k) i1 i2 M
      exact t.trans (by rw [show M (16 : Int).toNat (8 * x + k) = M0 (16 + 0) (8 * x + k) from r4 _ _ (by omega), c3, hy])
    obtain ⟨dv, hdv⟩ : ∃ dv, M0 (17 + 0) (8 * x + k) = dv := ⟨_, rfl⟩
    have k17 : E_C 146 [17, x0 * 8 + x4] M = some (dv, M) := by
      have t := w_atN (a := 17) (i := x0 * 8 + x4) (n := 320) (by decide +kernel) (j := 8 * x + k) i1 i2 M
      exact t.trans (by rw [show M (17 : Int).toNat (8 * x + k) = M0 (17 + 0) (8 * x + k) from r4 _ _ (by omega), hdv])
    have l := w_layN (a := 172) (i := ((g0 + y : Nat) : Int)) (n := 40) (by decide +kernel) (j := g0 + y) rfl i3 dv M
    have l' : E_C 147 [172, ((g0 + y : Nat) : Int), dv] M = some (0, e_up M 172 (g0 + y) dv) := l
    obtain ⟨M1, hM1⟩ : ∃ M1, e_up M 172 (g0 + y) dv = M1 := ⟨_, rfl⟩
    have e1 : ∀ id i, ¬ (id = 172 ∧ i = g0 + y) → M1 id i = M id i := fun id i h => by rw [← hM1, c_up_n h]
    rw [hM1] at l'
    have k15' := k15 M1 (fun id i h => (e1 _ _ (by omega)).trans (r4 _ _ h))
    obtain ⟨M2, s1, s2, s3, s4⟩ := bx_5 (j := j0 + k) (q := q1) (q0 := (q1 : Int)) (y := ((g0 + y : Nat) : Int)) (M := M1) ((e1 _ _ (by omega)).trans r1) i4 rfl i5
    have e2 : ∀ id i, ¬ (170 ≤ id ∧ id ≤ 176) → M2 id i = M0 id i := fun id i h => (s4 _ _ (by omega) (by omega) (by omega) (by omega) (by omega)).trans ((e1 _ _ (by omega)).trans (r4 _ _ h))
    have hRS : bx_RS g M0 M2 x j0 g0 (g0 + gr) (k + 1) := by
      refine ⟨by rw [s3]; omega, fun i hi => ?_, fun i hi => ?_, e2, fun i hi => ?_, fun i => ?_, fun i hi => ?_, fun i hi => ⟨?_, ?_, ?_⟩, fun i hi => ?_⟩
      · by_cases e : i = k
        · subst e
          obtain ⟨d1, d2, d3, d4⟩ := s2
          refine ⟨?_, ?_, ?_, fun a ha => ?_⟩
          · rw [d1, hq1, Int.toNat_natCast]
          · rw [d2, hy]; omega
          · rw [d3, hq1, Int.toNat_natCast, e1 _ _ (by omega), r4 _ _ (by omega)]
          · rw [d4 a ha, hq1, Int.toNat_natCast, e1 _ _ (by omega), r4 _ _ (by omega)]
        · obtain ⟨d1, d2, d3, d4⟩ := r2 i (by omega)
          refine ⟨?_, ?_, ?_, fun a ha => ?_⟩
          · rw [s4 _ _ (by omega) (by omega) (by omega) (by omega) (by omega), e1 _ _ (by omega)]; exact d1
          · rw [s4 _ _ (by omega) (by omega) (by omega) (by omega) (by omega), e1 _ _ (by omega)]; exact d2
          · rw [s4 _ _ (by omega) (by omega) (by omega) (by omega) (by omega), e1 _ _ (by omega)]; exact d3
          · rw [s4 _ _ (by omega) (by omega) (by omega) (by omega) (by omega), e1 _ _ (by omega)]; exact d4 a ha
      · rw [s4 _ _ (by omega) (by omega) (by omega) (by omega) (by omega)]
        have vk : dv = g (28 * (x : Int) + 20 + (y : Int)) := by rw [← hdv, c4, hy]
        by_cases e : g0 + (g (28 * (x : Int) + 11 + (i : Int))).toNat = g0 + y
        · rw [e, ← hM1, c_up_s, vk]
          by_cases e2 : i = k
          · rw [e2, hy]
          · have Gi : 0 ≤ g (28 * (x : Int) + 11 + (i : Int)) := by
              obtain ⟨y', y1, -, -⟩ := cu_st_in (v := fun _ => 0) (D := fun _ => 0) b5 i (by omega)
              have y1 : g (28 * (x : Int) + 11 + (i : Int)) = y' := y1
              omega
            rw [show g (28 * (x : Int) + 11 + (i : Int)) = (y : Int) by omega]
        · rw [e1 _ _ (by omega)]
          have : i ≠ k := fun e2 => e (by rw [e2, hy, Int.toNat_natCast])
          exact r3 i (by omega)
      · rw [s4 _ _ (by omega) (by omega) (by omega) (by omega) (by omega), e1 _ _ (by omega)]; exact r5 i hi
      · rw [s4 _ _ (by omega) (by omega) (by omega) (by omega) (by omega), e1 _ _ (by omega)]; exact r6 i
      · rw [s4 _ _ (by omega) (by omega) (by omega) (by omega) (by omega), e1 _ _ (by omega)]; exact r7 i hi
      · rw [s4 _ _ (by omega) (by omega) (by omega) (by omega) (by omega), e1 _ _ (by omega)]; exact (r8 i hi).1
      · rw [s4 _ _ (by omega) (by omega) (by omega) (by omega) (by omega), e1 _ _ (by omega)]; exact (r8 i hi).2.1
      · rw [s4 _ _ (by omega) (by omega) (by omega) (by omega) (by omega), e1 _ _ (by omega)]; exact (r8 i hi).2.2
      · rw [s4 _ _ (by omega) (by omega) (by omega) (by omega) (by omega), e1 _ _ (by omega)]; exact r9 i hi
    obtain ⟨M', y4, y5, y6, z1, z2⟩ := ih (k + 1) (x4 + 1) (x0 * 8 + x4) ((g0 + y : Nat) : Int) M2 (by omega) (by omega) hRS
    refine ⟨M', y4, y5, y6, ?_, z2⟩
    rw [← z1]
    have w1 : e_w (x0 * 8) = x0 * 8 := a_w_id (by omega) (by omega)
    have w2 : e_w (x0 * 8 + x4) = x0 * 8 + x4 := a_w_id (by omega) (by omega)
    have w4 : e_w (x4 + 1) = x4 + 1 := a_w_id (by omega) (by omega)
    have w3 : e_w ((g0 : Int) + (y : Int)) = ((g0 + y : Nat) : Int) := (a_w_id (by omega) (by omega)).trans (by omega)
    clear z1 z2 s2 s3 s4 ih hRS k15 e1 e2 r1 r2 r3 r4 r5 r6 r7 r8 r9
    generalize ((g0 + y : Nat) : Int) = gy at w3 l' s1 ⊢
    generalize (g0 : Int) = gg at w3 h4' ⊢
    generalize (y : Int) = yy at w3 k16
    generalize (q1 : Int) = qq at k15' s1
    rw [E_V_eq]
    show e_tv E_C (E_V 4) e_t4_53 [170, x0, 10, n0, x4, x5, x6] M = _
    unfold e_t4_53
    simp [zq_a, zq_b, zq_c, zq_d, zq_e, zq_f, zq_g, zq_h, zq_i, zq_j, zq_k, zq_l, zq_m, zq_n, zq_o, zq_p, zq_q, zq_r, zq_s, zq_t, zq_u, zq_v, zq_w, zq_x, zq_y, zq_z, zq_A, zq_B, zq_C, zq_D, zq_E, zq_F, zq_G, zq_H, zq_I, zq_J, zq_K, zq_L, ↓zq_M, ↓zq_N, ↓zq_O, ↓zq_P, ↓zq_Q, ↓zq_R, zq_S, zq_T, zq_U, zq_V, zq_W, zq_X, zq_Y, zq_Z, zq_0, zq_1, zq_2, zq_3, zq_4, zq_5, ↓zq_6, ↓zq_7, ↓zq_8, ↓zq_9, ↓zq_aa, zq_ab, zq_ac, zq_ad, zq_ae, zq_af, zq_ag, ↓zq_ah, ↓zq_ai, ↓zq_aj, zq_ak, ↓zq_al, ↓zq_am, e_b1, e_b2, x_o1, x_o2, bx_F4, bx_G9, w_P5, w_P6, w_P7, q, h4', w1, w2, w3, w4, k16, k17, l', k15', s1]
/-- a line: a CELL or a ROW -/
theorem bx_4 {g : Int → Int} {M : EM} {x j0 g0 l0 : Nat} {x0 : Int} (hx0 : x0 = x) (hx : x < 40) (hk : M 11 x = g (28 * (x : Int))) (hd : g (28 * (x : Int)) = 0 ∨ (g (28 * (x : Int)) = 1 ∧ ∃ n gr, hd_d1 M 0 g x n gr)) (h0 : M 170 0 = j0) (h4 : M 170 4 = g0) (h5 : M 170 5 = l0) (h6 : l0 < 6) (hj : j0 + bx_nc g (x : Int) ≤ 40) (hg : g0 + bx_ng g (x : Int) ≤ 40) (hz : ∀ y, g0 ≤ y → y < 40 → M 172 y = 0) : ∃ M', E_C 4 [170, x0] M = some (0, M') ∧ bx_AL g M M' (x : Int) j0 g0 l0 := by
  have t11 := w_atN (a := 11) (i := x0) (n := 40) (by decide +kernel) (j := x) hx0 hx M
  have t11' : E_C 146 [11, x0] M = some (g (28 * (x : Int)), M) := t11.trans (by rw [show M (11 : Int).toNat x = M 11 x from rfl, hk])
  have s0 : E_C 4 [170, x0] M = e_tv E_C (E_V 4) e_t4_0 [170, x0, 0, 0, 0, 0, 0] M := r_ent (u := 4) (as := [170, x0]) (M := M) (bx_r (M := M) rfl (by decide +kernel))
  rw [s0]
  rcases hd with k0 | ⟨k1, n, gr, hd⟩
  · have en : bx_nc g (x : Int) = 1 := if_pos k0
    have eg : bx_ng g (x : Int) = 1 := if_pos k0
    rw [en] at hj
    rw [eg] at hg
    rw [k0] at t11'
    have hz0 := hz g0 (Nat.le_refl _) (by omega)
    have hj0 : j0 < 40 := by omega
    have w4 : e_w ((g0 : Int) + 1) = ((g0 + 1 : Nat) : Int) := (a_w_id (by omega) (by omega)).trans (by omega)
    obtain ⟨M1, s1, ⟨d1, d2, d3, d4⟩, s3, s4⟩ := bx_5 (j := j0) (q := x) (q0 := x0) (y := (g0 : Int)) h0 hj0 hx0 hx
    have f4 : M1 170 4 = g0 := (s4 _ _ (by omega) (by omega) (by omega) (by omega) (by omega)).trans h4
    have f5 : (e_up M1 170 4 ((g0 + 1 : Nat) : Int)) 170 5 = l0 := by
      rw [c_up_n (by omega)]
      exact (s4 _ _ (by omega) (by omega) (by omega) (by omega) (by omega)).trans h5
    have f0 : (e_up M1 170 4 ((g0 + 1 : Nat) : Int)) 170 0 = (j0 : Int) + 1 := by
      rw [c_up_n (by omega)]
      exact s3
    have k := fun x2 x3 x4 x5 x6 => bx_140 (x := x0) (x2 := x2) (x3 := x3) (x4 := x4) (x5 := x5) (x6 := x6) f5 h6 f0
    refine ⟨e_up (e_up (e_up M1 170 4 ((g0 + 1 : Nat) : Int)) 170 5 ((l0 : Int) + 1)) 171 (l0 + 1) ((j0 : Int) + 1), ?_, ?_⟩
    · unfold e_t4_0
      generalize ((g0 + 1 : Nat) : Int) = g1 at w4 k ⊢
      generalize (g0 : Int) = gg at w4 f4 s1 h4
      simp [zq_a, zq_b, zq_c, zq_d, zq_e, zq_f, zq_g, zq_h, zq_i, zq_j, zq_k, zq_l, zq_m, zq_n, zq_o, zq_p, zq_q, zq_r, zq_s, zq_t, zq_u, zq_v, zq_w, zq_x, zq_y, zq_z, zq_A, zq_B, zq_C, zq_D, zq_E, zq_F, zq_G, zq_H, zq_I, zq_J, zq_K, zq_L, ↓zq_M, ↓zq_N, ↓zq_O, ↓zq_P, ↓zq_Q, ↓zq_R, zq_S, zq_T, zq_U, zq_V, zq_W, zq_X, zq_Y, zq_Z, zq_0, zq_1, zq_2, zq_3, zq_4, zq_5, ↓zq_6, ↓zq_7, ↓zq_8, ↓zq_9, ↓zq_aa, zq_ab, zq_ac, zq_ad, zq_ae, zq_af, zq_ag, ↓zq_ah, ↓zq_ai, ↓zq_aj, zq_ak, ↓zq_al, ↓zq_am, e_b1, e_b2, x_o1, x_o2, bx_F4, bx_P4, bx_G3, w_H0, w_P1, h4, t11', s1, f4, w4, k]
    · clear w4 k
      have fr : ∀ id i, ¬ (id = 171 ∧ i = l0 + 1) → ¬ (id = 170 ∧ (i = 5 ∨ i = 4)) → (e_up (e_up (e_up M1 170 4 ((g0 + 1 : Nat) : Int)) 170 5 ((l0 : Int) + 1)) 171 (l0 + 1) ((j0 : Int) + 1)) id i = M1 id i := fun id i h1 h2 => by
        rw [c_up_n h1, c_up_n (fun e => h2 ⟨e.1, Or.inl e.2⟩), c_up_n (fun e => h2 ⟨e.1, Or.inr e.2⟩)]
      have ff : ∀ id i, ¬ (id = 171 ∧ i = l0 + 1) → ¬ (id = 170 ∧ (i = 5 ∨ i = 4 ∨ i = 0)) → ¬ (id = 174 ∧ i = j0) → ¬ (id = 173 ∧ i = j0) → ¬ (id = 176 ∧ i = j0) → ¬ (id = 175 ∧ 4 * j0 ≤ i ∧ i < 4 * j0 + 4) → (e_up (e_up (e_up M1 170 4 ((g0 + 1 : Nat) : Int)) 170 5 ((l0 : Int) + 1)) 171 (l0 + 1) ((j0 : Int) + 1)) id i = M id i := fun id i h1 h2 h3 h4 h5 h6 => (fr _ _ h1 (by omega)).trans (s4 _ _ h3 h4 h5 h6 (by omega))
      unfold bx_AL
      rw [en, eg]
      refine ⟨?_, ?_, ?_, ?_, fun k hk => ?_, fun y hy => ?_, fun id k h => ?_, fun k h1 h2 h3 => ?_, fun k h => ?_, fun k h => ?_, fun k h => ⟨?_, ?_, ?_⟩, fun k h => ?_⟩
      · rw [fr _ _ (by omega) (by omega), s3]; omega
      · rw [c_up_n (by omega), c_up_n (by omega), c_up_s]
      · rw [c_up_n (by omega), c_up_s]; omega
      · rw [c_up_s]; omega
      · have e : k = 0 := by omega
        subst e
        have ec : bx_ce g (x : Int) 0 = x := if_pos k0
        have eG : bx_gr g (x : Int) 0 = 0 := if_pos k0
        rw [ec, eG, Int.toNat_natCast, Int.add_zero]
        refine ⟨?_, ?_, ?_, fun a ha => ?_⟩
        · rw [fr _ _ (by omega) (by omega)]; exact d1
        · rw [fr _ _ (by omega) (by omega)]; exact d2
        · rw [fr _ _ (by omega) (by omega)]; exact d3
        · rw [fr _ _ (by omega) (by omega)]; exact d4 a ha
      · have e : y = 0 := by omega
        subst e
        rw [show bx_di g (x : Int) 0 = 0 from if_pos k0, ff _ _ (by omega) (by omega) (by omega) (by omega) (by omega) (by omega)]
        exact hz0
      · exact ff _ _ (by omega) (by omega) (by omega) (by omega) (by omega) (by omega)
      · exact ff _ _ (by omega) (by omega) (by omega) (by omega) (by omega) (by omega)
      · exact ff _ _ (by omega) (by omega) (by omega) (by omega) (by omega) (by omega)
      · exact ff _ _ (by omega) (by omega) (by omega) (by omega) (by omega) (by omega)
      · exact ff _ _ (by omega) (by omega) (by omega) (by omega) (by omega) (by omega)
      · exact ff _ _ (by omega) (by omega) (by omega) (by omega) (by omega) (by omega)
      · exact ff _ _ (by omega) (by omega) (by omega) (by omega) (by omega) (by omega)
      · exact ff _ _ (by omega) (by omega) (by omega) (by omega) (by omega) (by omega)
  · have hd' := hd
    obtain ⟨⟨n1, n2, n3⟩, b1, b2, b3, b4, b5, b6⟩ := hd
    have kn : ¬ g (28 * (x : Int)) = 0 := by omega
    have en : bx_nc g (x : Int) = n := by
      unfold bx_nc
      rw [if_neg kn, b1, Int.toNat_natCast]
    have eg : bx_ng g (x : Int) = gr := by
      unfold bx_ng
      rw [if_neg kn, b3, Int.toNat_natCast]
    rw [en] at hj
    rw [eg] at hg
    rw [k1] at t11'
    have t14 := w_atN (a := 14) (i := x0) (n := 40) (by decide +kernel) (j := x) hx0 hx M
    have t14' : E_C 146 [14, x0] M = some ((n : Int), M) := t14.trans (by rw [show M (14 : Int).toNat x = M (14 + 0) x from rfl, b2])
    obtain ⟨M1, y4, y5, y6, z1, r1, r2, r3, r4, r5, r6, r7, r8, r9⟩ := bx_53 (g0 := g0) hd' hx hj hg h4 hx0 (n0 := (n : Int)) rfl n 0 0 0 0 M rfl (by omega) ⟨h0, fun i hi => absurd hi (Nat.not_lt_zero _), fun i hi => absurd hi (Nat.not_lt_zero _), fun _ _ _ => rfl, fun _ _ => rfl, fun _ => rfl, fun _ _ => rfl, fun _ _ => ⟨rfl, rfl, rfl⟩, fun _ _ => rfl⟩
    have f5 : (e_up M1 170 4 ((g0 + gr : Nat) : Int)) 170 5 = l0 := by
      rw [c_up_n (by omega)]
      exact (r5 5 (by decide)).trans h5
    have f0 : (e_up M1 170 4 ((g0 + gr : Nat) : Int)) 170 0 = ((j0 + n : Nat) : Int) := by
      rw [c_up_n (by omega)]
      exact r1
    have k := bx_140 (x := x0) (x2 := 10) (x3 := (n : Int)) (x4 := y4) (x5 := y5) (x6 := y6) f5 h6 f0
    refine ⟨e_up (e_up (e_up M1 170 4 ((g0 + gr : Nat) : Int)) 170 5 ((l0 : Int) + 1)) 171 (l0 + 1) ((j0 + n : Nat) : Int), ?_, ?_⟩
    · have z2 := z1.trans k
      clear z1 k
      unfold e_t4_0
      generalize (n : Int) = nn at t14' z2
      simp [zq_a, zq_b, zq_c, zq_d, zq_e, zq_f, zq_g, zq_h, zq_i, zq_j, zq_k, zq_l, zq_m, zq_n, zq_o, zq_p, zq_q, zq_r, zq_s, zq_t, zq_u, zq_v, zq_w, zq_x, zq_y, zq_z, zq_A, zq_B, zq_C, zq_D, zq_E, zq_F, zq_G, zq_H, zq_I, zq_J, zq_K, zq_L, ↓zq_M, ↓zq_N, ↓zq_O, ↓zq_P, ↓zq_Q, ↓zq_R, zq_S, zq_T, zq_U, zq_V, zq_W, zq_X, zq_Y, zq_Z, zq_0, zq_1, zq_2, zq_3, zq_4, zq_5, ↓zq_6, ↓zq_7, ↓zq_8, ↓zq_9, ↓zq_aa, zq_ab, zq_ac, zq_ad, zq_ae, zq_af, zq_ag, ↓zq_ah, ↓zq_ai, ↓zq_aj, zq_ak, ↓zq_al, ↓zq_am, e_b1, e_b2, x_o1, x_o2, bx_G3, w_H0, w_P1, w_P4, t11', t14', z2]
    · have fr : ∀ id i, ¬ (id = 171 ∧ i = l0 + 1) → ¬ (id = 170 ∧ (i = 5 ∨ i = 4)) → (e_up (e_up (e_up M1 170 4 ((g0 + gr : Nat) : Int)) 170 5 ((l0 : Int) + 1)) 171 (l0 + 1) ((j0 + n : Nat) : Int)) id i = M1 id i := fun id i h1 h2 => by
        rw [c_up_n h1, c_up_n (fun e => h2 ⟨e.1, Or.inl e.2⟩), c_up_n (fun e => h2 ⟨e.1, Or.inr e.2⟩)]
      unfold bx_AL
      rw [en, eg]
      refine ⟨?_, ?_, ?_, ?_, fun k hk => ?_, fun y hy => ?_, fun id k h => ?_, fun k h1 h2 h3 => ?_, fun k h => ?_, fun k h => ?_, fun k h => ⟨?_, ?_, ?_⟩, fun k h => ?_⟩
      · rw [fr _ _ (by omega) (by omega)]; exact r1
      · rw [c_up_n (by omega), c_up_n (by omega), c_up_s]
      · rw [c_up_n (by omega), c_up_s]; omega
      · rw [c_up_s]
      · have ec : bx_ce g (x : Int) k = g (28 * (x : Int) + 3 + (k : Int)) := if_neg kn
        have eG : bx_gr g (x : Int) k = g (28 * (x : Int) + 11 + (k : Int)) := if_neg kn
        rw [ec, eG]
        obtain ⟨d1, d2, d3, d4⟩ := r2 k hk
        refine ⟨?_, ?_, ?_, fun a ha => ?_⟩
        · rw [fr _ _ (by omega) (by omega)]; exact d1
        · rw [fr _ _ (by omega) (by omega)]; exact d2
        · rw [fr _ _ (by omega) (by omega)]; exact d3
        · rw [fr _ _ (by omega) (by omega)]; exact d4 a ha
      · obtain ⟨i, i1, i2⟩ := cu_gp_on b5 y hy
        have i2 : g (28 * (x : Int) + 11 + (i : Int)) = y := i2
        have := r3 i i1
        rw [i2, Int.toNat_natCast] at this
        rw [show bx_di g (x : Int) y = g (28 * (x : Int) + 20 + (y : Int)) from if_neg kn, fr _ _ (by omega) (by omega)]
        exact this
      · rw [fr _ _ (by omega) (by omega)]; exact r4 _ _ h
      · rw [fr _ _ (by omega) (by omega)]; exact r5 _ h1
      · rw [fr _ _ (by omega) (by omega)]; exact r6 _
      · rw [fr _ _ (by omega) (by omega)]; exact r7 _ h
      · rw [fr _ _ (by omega) (by omega)]; exact (r8 _ h).1
      · rw [fr _ _ (by omega) (by omega)]; exact (r8 _ h).2.1
      · rw [fr _ _ (by omega) (by omega)]; exact (r8 _ h).2.2
      · rw [fr _ _ (by omega) (by omega)]; exact r9 _ h
end
section
/-! a PART spread out: no more than 40 CELLS; what stands on the bench -/
theorem bx_pg : ∀ (m n : Nat) (f : Nat → Nat), (∀ i, i < n → f i < m) → (∀ i j, i < n → j < n → f i = f j → i = j) → n ≤ m := by
  intro m
  induction m with
  | zero =>
    intro n f h _
    rcases Nat.eq_zero_or_pos n with z | z
    · omega
    · exact absurd (h 0 z) (Nat.not_lt_zero _)
  | succ m ih =>
    intro n f h hi
    by_cases c : ∃ i, i < n ∧ f i = m
    · obtain ⟨i0, i1, i2⟩ := c
      obtain ⟨k, rfl⟩ : ∃ k, n = k + 1 := ⟨n - 1, by omega⟩
      have r := ih k (fun j => if j = i0 then f k else f j) (fun j hj => by
        show (if j = i0 then f k else f j) < m
        by_cases e : j = i0
        · rw [if_pos e]
          have a := h k (by omega)
          have b : f k ≠ m := fun e2 => by
            have := hi k i0 (by omega) i1 (e2.trans i2.symm)
            omega
          omega
        · rw [if_neg e]
          have a := h j (by omega)
          have b : f j ≠ m := fun e2 => e (hi j i0 (by omega) i1 (e2.trans i2.symm))
          omega) (fun i j h1 h2 h3 => by
        have h3 : (if i = i0 then f k else f i) = (if j = i0 then f k else f j) := h3
        by_cases e : i = i0
        · rw [if_pos e] at h3
          by_cases e2 : j = i0
          · omega
          · rw [if_neg e2] at h3
            have := hi k j (by omega) (by omega) h3
            omega
        · rw [if_neg e] at h3
          by_cases e2 : j = i0
          · rw [if_pos e2] at h3
            have := hi i k (by omega) (by omega) h3
            omega
          · rw [if_neg e2] at h3
            exact hi i j (by omega) (by omega) h3)
      omega
    · have r := ih n f (fun i h1 => by
        have a := h i h1
        have b : f i ≠ m := fun e => c ⟨i, h1, e⟩
        omega) hi
      omega
def bx_oc (g : Int → Int) (X : Nat → Int) : Nat → Nat
  | 0 => 0
  | i + 1 => bx_oc g X i + bx_nc g (X i)
def bx_og (g : Int → Int) (X : Nat → Int) : Nat → Nat
  | 0 => 0
  | i + 1 => bx_og g X i + bx_ng g (X i)
def bx_fc (g : Int → Int) (X : Nat → Int) : Nat → Nat → Int
  | 0, _ => 0
  | i + 1, j => if j < bx_oc g X i then bx_fc g X i j else bx_ce g (X i) (j - bx_oc g X i)
theorem bx_fc_at {g : Int → Int} {X : Nat → Int} : ∀ i j, j < bx_oc g X i → ∃ l k, l < i ∧ k < bx_nc g (X l) ∧ j = bx_oc g X l + k ∧ bx_fc g X i j = bx_ce g (X l) k := by
  intro i
  induction i with
  | zero => intro j hj; exact absurd hj (Nat.not_lt_zero _)
  | succ i ih =>
    intro j hj
    have hj : j < bx_oc g X i + bx_nc g (X i) := hj
    rcases Nat.lt_or_ge j (bx_oc g X i) with c | c
    · obtain ⟨l, k, h1, h2, h3, h4⟩ := ih j c
      exact ⟨l, k, by omega, h2, h3, (if_pos c).trans h4⟩
    · exact ⟨i, j - bx_oc g X i, by omega, by omega, by omega, if_neg (by omega)⟩
theorem bx_oc_m {g : Int → Int} {X : Nat → Int} : ∀ d i, bx_oc g X i ≤ bx_oc g X (i + d) := by
  intro d
  induction d with
  | zero => intro i; exact Nat.le_refl _
  | succ d ih =>
    intro i
    have := ih i
    show bx_oc g X i ≤ bx_oc g X (i + d) + bx_nc g (X (i + d))
    omega
theorem bx_og_m {g : Int → Int} {X : Nat → Int} : ∀ d i, bx_og g X i ≤ bx_og g X (i + d) := by
  intro d
  induction d with
  | zero => intro i; exact Nat.le_refl _
  | succ d ih =>
    intro i
    have := ih i
    show bx_og g X i ≤ bx_og g X (i + d) + bx_ng g (X (i + d))
    omega
theorem bx_cap {g : Int → Int} {X : Nat → Int} {L : Nat} (hin : ∀ l k, l < L → k < bx_nc g (X l) → 0 ≤ bx_ce g (X l) k ∧ bx_ce g (X l) k < 40) (hij : ∀ l k l' k', l < L → k < bx_nc g (X l) → l' < L → k' < bx_nc g (X l') → bx_ce g (X l) k = bx_ce g (X l') k' → l = l' ∧ k = k') : bx_oc g X L ≤ 40 := by
  refine bx_pg 40 _ (fun j => (bx_fc g X L j).toNat) (fun j hj => ?_) (fun i j hi hj h => ?_)
  · obtain ⟨l, k, h1, h2, h3, h4⟩ := bx_fc_at L j hj
    have := hin l k h1 h2
    show (bx_fc g X L j).toNat < 40
    rw [h4]
    omega
  · obtain ⟨l, k, h1, h2, h3, h4⟩ := bx_fc_at L i hi
    obtain ⟨l', k', h1', h2', h3', h4'⟩ := bx_fc_at L j hj
    have h : (bx_fc g X L i).toNat = (bx_fc g X L j).toNat := h
    rw [h4, h4'] at h
    have a := hin l k h1 h2
    have b := hin l' k' h1' h2'
    obtain ⟨e1, e2⟩ := hij l k l' k' h1 h2 h1' h2' (by omega)
    subst e1 e2
    omega
theorem bx_ogc {g : Int → Int} {X : Nat → Int} : ∀ L, (∀ l, l < L → bx_ng g (X l) ≤ bx_nc g (X l)) → bx_og g X L ≤ bx_oc g X L := by
  intro L
  induction L with
  | zero => intro _; exact Nat.le_refl _
  | succ L ih =>
    intro h
    have a := ih (fun l hl => h l (by omega))
    have b := h L (by omega)
    show bx_og g X L + bx_ng g (X L) ≤ bx_oc g X L + bx_nc g (X L)
    omega
/-- i lines stand on the bench -/
def bx_SP (g : Int → Int) (M M' : EM) (X : Nat → Int) (L : Nat) : Prop := M' 170 0 = (bx_oc g X L : Int) ∧ M' 170 4 = (bx_og g X L : Int) ∧ M' 170 5 = (L : Int) ∧ (∀ l, l ≤ L → M' 171 l = (bx_oc g X l : Int)) ∧ (∀ l k, l < L → k < bx_nc g (X l) → bx_cell M M' (bx_oc g X l + k) (bx_ce g (X l) k).toNat ((bx_og g X l : Int) + bx_gr g (X l) k)) ∧ (∀ l y, l < L → y < bx_ng g (X l) → M' 172 (bx_og g X l + y) = bx_di g (X l) y) ∧ (∀ y, bx_og g X L ≤ y → y < 40 → M' 172 y = 0) ∧ (∀ id k, ¬ (170 ≤ id ∧ id ≤ 176) → M' id k = M id k) ∧ (∀ k, k ≠ 0 → k ≠ 4 → k ≠ 5 → k ≠ 7 → M' 170 k = M 170 k)
theorem bx_SPs {g : Int → Int} {M N N' : EM} {X : Nat → Int} {i : Nat} (h : bx_SP g M N X i) (k : bx_AL g N N' (X i) (bx_oc g X i) (bx_og g X i) i) : bx_SP g M N' X (i + 1) := by
  obtain ⟨a1, a2, a3, a4, a5, a6, a7, a8, a9⟩ := h
  obtain ⟨b1, b2, b3, b4, b5, b6, c1, c2, c3, c4, c5, c6⟩ := k
  have ocs : bx_oc g X (i + 1) = bx_oc g X i + bx_nc g (X i) := rfl
  have ogs : bx_og g X (i + 1) = bx_og g X i + bx_ng g (X i) := rfl
  refine ⟨by rw [b1, ocs], by rw [b2, ogs], b3, fun l hl => ?_, fun l k hl hk => ?_, fun l y hl hy => ?_, fun y h1 h2 => ?_, fun id k h => (c1 id k h).trans (a8 id k h), fun k h0 h4 h5 h7 => (c2 k h0 h4 h5).trans (a9 k h0 h4 h5 h7)⟩
  · by_cases e : l = i + 1
    · rw [e, b4, ocs]
    · rw [c3 l e]; exact a4 l (by omega)
  · by_cases e : l = i
    · subst e
      obtain ⟨d1, d2, d3, d4⟩ := b5 k hk
      refine ⟨d1, d2, ?_, fun a ha => ?_⟩
      · rw [d3]; exact a8 _ _ (by omega)
      · rw [d4 a ha]; exact a8 _ _ (by omega)
    · obtain ⟨d1, d2, d3, d4⟩ := a5 l k (by omega) hk
      have m := bx_oc_m (g := g) (X := X) (i - (l + 1)) (l + 1)
      rw [show l + 1 + (i - (l + 1)) = i by omega] at m
      have m : bx_oc g X l + bx_nc g (X l) ≤ bx_oc g X i := m
      obtain ⟨f1, f2, f3⟩ := c5 (bx_oc g X l + k) (by omega)
      refine ⟨?_, ?_, ?_, fun a ha => ?_⟩
      · rw [f2]; exact d1
      · rw [f1]; exact d2
      · rw [f3]; exact d3
      · rw [c6 _ (by omega)]; exact d4 a ha
  · by_cases e : l = i
    · subst e
      exact b6 y hy
    · have m := bx_og_m (g := g) (X := X) (i - (l + 1)) (l + 1)
      rw [show l + 1 + (i - (l + 1)) = i by omega] at m
      have m : bx_og g X l + bx_ng g (X l) ≤ bx_og g X i := m
      rw [c4 _ (by omega)]
      exact a6 l y (by omega) hy
  · rw [ogs] at h1
    rw [c4 _ (by omega)]
    exact a7 y (by omega) h2
end
section
/-! a PART spread out: exactly -/
section BXM
variable {M : EM} {g : Int → Int}
theorem bx_d1_cg {N : EM} {x n gr : Nat} (e : ∀ id, id < 162 → N id = M id) (h : hd_d1 M 0 g x n gr) : hd_d1 N 0 g x n gr := by
  unfold hd_d1 hd_mb at h ⊢
  rw [e (12 + 0) (by decide), e (14 + 0) (by decide), e (15 + 0) (by decide), e (16 + 0) (by decide), e (17 + 0) (by decide)]
  exact h
/-- a line is a CELL or a ROW -/
def bx_ok (M : EM) (g : Int → Int) (x : Int) : Prop := ∃ z : Nat, x = z ∧ (z : Int) < g 1198 ∧ (g (28 * (z : Int)) = 0 ∨ (g (28 * (z : Int)) = 1 ∧ ∃ n gr, hd_d1 M 0 g z n gr))
theorem bx_ok_ce {x : Int} (h40 : g 1198 ≤ 40) (h : bx_ok M g x) {k : Nat} (hk : k < bx_nc g x) : 0 ≤ bx_ce g x k ∧ bx_ce g x k < 40 := by
  obtain ⟨z, rfl, z2, z3⟩ := h
  rcases z3 with z3 | ⟨z3, n, gr, ⟨-, b1, -, -, -, -, b6⟩⟩
  · rw [show bx_ce g (z : Int) k = z from if_pos z3]
    omega
  · have kn : ¬ g (28 * (z : Int)) = 0 := by omega
    have e : bx_nc g (z : Int) = n := by
      unfold bx_nc
      rw [if_neg kn, b1, Int.toNat_natCast]
    rw [show bx_ce g (z : Int) k = g (28 * (z : Int) + 3 + (k : Int)) from if_neg kn]
    obtain ⟨⟨-, m2, m3, -, -⟩, -⟩ := b6 k (by omega)
    omega
theorem bx_ok_n {x : Int} (h : bx_ok M g x) : bx_ng g x ≤ bx_nc g x := by
  obtain ⟨z, rfl, z2, z3⟩ := h
  rcases z3 with z3 | ⟨z3, n, gr, ⟨⟨-, -, n3⟩, b1, -, b3, -, -, -⟩⟩
  · rw [show bx_ng g (z : Int) = 1 from if_pos z3, show bx_nc g (z : Int) = 1 from if_pos z3]
    exact Nat.le_refl _
  · have kn : ¬ g (28 * (z : Int)) = 0 := by omega
    unfold bx_ng bx_nc
    rw [if_neg kn, if_neg kn, b1, b3, Int.toNat_natCast, Int.toNat_natCast]
    exact n3
/-- CELLS of one ROW differ; of a ROW each is in it -/
theorem bx_ok_row {z k k' : Nat} (h : bx_ok M g (z : Int)) (hk : k < bx_nc g (z : Int)) (hk' : k' < bx_nc g (z : Int)) (e : bx_ce g (z : Int) k = bx_ce g (z : Int) k') : k = k' := by
  obtain ⟨z', z1, z2, z3⟩ := h
  have : z' = z := by omega
  subst this
  rcases z3 with z3 | ⟨z3, n, gr, ⟨-, b1, -, -, -, -, b6⟩⟩
  · rw [show bx_nc g (z' : Int) = 1 from if_pos z3] at hk hk'
    omega
  · have kn : ¬ g (28 * (z' : Int)) = 0 := by omega
    have e2 : bx_nc g (z' : Int) = n := by
      unfold bx_nc
      rw [if_neg kn, b1, Int.toNat_natCast]
    rw [show bx_ce g (z' : Int) k = g (28 * (z' : Int) + 3 + (k : Int)) from if_neg kn, show bx_ce g (z' : Int) k' = g (28 * (z' : Int) + 3 + (k' : Int)) from if_neg kn] at e
    rcases Nat.lt_trichotomy k k' with c | c | c
    · exact absurd e ((b6 k' (by omega)).1.2.2.2.2 k c)
    · exact c
    · exact absurd e.symm ((b6 k (by omega)).1.2.2.2.2 k' c)
theorem bx_ok_in {x : Int} (h : bx_ok M g x) {k : Nat} (hk : k < bx_nc g x) : (g (28 * x) = 0 ∧ bx_ce g x k = x) ∨ (g (28 * x) = 1 ∧ g (28 * bx_ce g x k + 1) = x + 1) := by
  obtain ⟨z, rfl, z2, z3⟩ := h
  rcases z3 with z3 | ⟨z3, n, gr, ⟨-, b1, -, -, -, -, b6⟩⟩
  · exact Or.inl ⟨z3, if_pos z3⟩
  · have kn : ¬ g (28 * (z : Int)) = 0 := by omega
    have e2 : bx_nc g (z : Int) = n := by
      unfold bx_nc
      rw [if_neg kn, b1, Int.toNat_natCast]
    rw [show bx_ce g (z : Int) k = g (28 * (z : Int) + 3 + (k : Int)) from if_neg kn]
    exact Or.inr ⟨z3, (b6 k (by omega)).1.2.2.2.1⟩
/-- of a PART that is no BOX: its lines, how many CELLS, how many GROUPS -/
theorem bx_lines (h40 : g 1198 ≤ 40) (hB : h_B M 0 g) (hD : hd_D M 0 g) {y : Nat} (hy : (y : Int) < g 1198) (hk : g (28 * (y : Int)) ≠ 3) : (1 ≤ cu_nl g (y : Int) ∧ cu_nl g (y : Int) ≤ 6) ∧ (∀ l, l < cu_nl g (y : Int) → bx_ok M g (cu_ln g (y : Int) l)) ∧ bx_oc g (cu_ln g (y : Int)) (cu_nl g (y : Int)) ≤ 40 ∧ bx_og g (cu_ln g (y : Int)) (cu_nl g (y : Int)) ≤ 40 := by
  obtain ⟨d0, d1, d2, d3⟩ := hD y hy
  obtain ⟨-, -, ⟨k0, k3⟩, -⟩ := hB.2.2 y hy
  by_cases c : g (28 * (y : Int)) = 2
  · obtain ⟨n, ⟨n1, n2⟩, b1, b2, b3, b4⟩ := d2 c
    have eL : cu_nl g (y : Int) = n := by
      unfold cu_nl
      rw [if_pos c, b1, Int.toNat_natCast]
    have eX : ∀ l : Nat, cu_ln g (y : Int) l = g (28 * (y : Int) + 3 + (l : Int)) := fun l => if_pos c
    rw [eL]
    have ok : ∀ l, l < n → bx_ok M g (cu_ln g (y : Int) l) := by
      intro l hl
      rw [eX l]
      obtain ⟨⟨m1, m2, m3, m4, m5⟩, m6⟩ := b4 l hl
      obtain ⟨z, hz⟩ : ∃ z : Nat, g (28 * (y : Int) + 3 + (l : Int)) = z := ⟨(g (28 * (y : Int) + 3 + (l : Int))).toNat, by omega⟩
      rw [hz] at m6 ⊢
      refine ⟨z, rfl, by omega, ?_⟩
      rcases m6 with m6 | m6
      · exact Or.inl m6
      · exact Or.inr ⟨m6, (hD z (by omega)).2.1 m6⟩
    have cap : bx_oc g (cu_ln g (y : Int)) n ≤ 40 := by
      refine bx_cap (fun l k hl hk => bx_ok_ce h40 (ok l hl) hk) (fun l k l' k' hl hk hl' hk' e => ?_)
      have o := ok l hl
      have o' := ok l' hl'
      have i1 := bx_ok_in o hk
      have i2 := bx_ok_in o' hk'
      obtain ⟨⟨m1, m2, m3, m4, m5⟩, m6⟩ := b4 l hl
      obtain ⟨⟨m1', m2', m3', m4', m5'⟩, m6'⟩ := b4 l' hl'
      rw [e] at i1
      rw [eX l] at i1 o hk e
      rw [eX l'] at i2 o' hk' e i1
      have xx : g (28 * (y : Int) + 3 + (l : Int)) = g (28 * (y : Int) + 3 + (l' : Int)) := by
        rcases i1 with ⟨i1, j1⟩ | ⟨i1, j1⟩
        · rcases i2 with ⟨i2, j2⟩ | ⟨i2, j2⟩
          · omega
          · rw [j1, m4] at j2
            omega
        · rcases i2 with ⟨i2, j2⟩ | ⟨i2, j2⟩
          · rw [j2, m4'] at j1
            omega
          · rw [j1] at j2
            omega
      have ll : l = l' := by
        rcases Nat.lt_trichotomy l l' with c2 | c2 | c2
        · exact absurd xx (m5' l c2)
        · exact c2
        · exact absurd xx.symm (m5 l' c2)
      subst ll
      refine ⟨rfl, ?_⟩
      obtain ⟨z, hz⟩ : ∃ z : Nat, g (28 * (y : Int) + 3 + (l : Int)) = z := ⟨(g (28 * (y : Int) + 3 + (l : Int))).toNat, by omega⟩
      rw [hz] at o hk hk' e
      exact bx_ok_row o hk hk' e
    refine ⟨⟨n1, n2⟩, ok, cap, ?_⟩
    have := bx_ogc (g := g) (X := cu_ln g (y : Int)) n (fun l hl => bx_ok_n (ok l hl))
    omega
  · have eL : cu_nl g (y : Int) = 1 := if_neg c
    have eX : ∀ l : Nat, cu_ln g (y : Int) l = y := fun l => if_neg c
    rw [eL]
    have oky : bx_ok M g (y : Int) := by
      refine ⟨y, rfl, hy, ?_⟩
      by_cases c0 : g (28 * (y : Int)) = 0
      · exact Or.inl c0
      · have c1 : g (28 * (y : Int)) = 1 := by omega
        exact Or.inr ⟨c1, d1 c1⟩
    have ok : ∀ l, l < 1 → bx_ok M g (cu_ln g (y : Int) l) := fun l _ => by rw [eX l]; exact oky
    have cap : bx_oc g (cu_ln g (y : Int)) 1 ≤ 40 := by
      refine bx_cap (fun l k hl hk => bx_ok_ce h40 (ok l hl) hk) (fun l k l' k' hl hk hl' hk' e => ?_)
      have e1 : l = l' := by omega
      subst e1
      rw [eX l] at e hk hk'
      exact ⟨rfl, bx_ok_row oky hk hk' e⟩
    refine ⟨⟨by decide, by decide⟩, ok, cap, ?_⟩
    have := bx_ogc (g := g) (X := cu_ln g (y : Int)) 1 (fun l hl => bx_ok_n (ok l hl))
    omega
/-- one line more -/
theorem bx_add {N : EM} {X : Nat → Int} {i : Nat} (hB : h_B M 0 g) (hS : bx_SP g M N X i) (h6 : i < 6) (ok : bx_ok M g (X i)) (hj : bx_oc g X (i + 1) ≤ 40) (hg : bx_og g X (i + 1) ≤ 40) : ∃ N', E_C 4 [170, X i] N = some (0, N') ∧ bx_SP g M N' X (i + 1) ∧ N' 170 7 = N 170 7 := by
  obtain ⟨z, z1, z2, z3⟩ := ok
  have e : ∀ id, id < 162 → N id = M id := fun id hid => funext fun k => hS.2.2.2.2.2.2.2.1 _ _ (by omega)
  have h40 := hB.2.1.2
  have zz : z3 = z3 := rfl
  rw [z1]
  obtain ⟨N', s1, s2⟩ := bx_4 (g := g) (M := N) (x := z) (j0 := bx_oc g X i) (g0 := bx_og g X i) (l0 := i) (x0 := (z : Int)) rfl (by omega) (by rw [e 11 (by decide)]; exact (hB.2.2 z z2).1) (by
    rcases z3 with z3 | ⟨z3, n, gr, z4⟩
    · exact Or.inl z3
    · exact Or.inr ⟨z3, n, gr, bx_d1_cg e z4⟩) hS.1 hS.2.1 hS.2.2.1 h6 (by rw [← z1]; exact hj) (by rw [← z1]; exact hg) hS.2.2.2.2.2.2.1
  rw [← z1] at s2
  exact ⟨N', s1, bx_SPs hS s2, s2.2.2.2.2.2.2.2.1 7 (by decide) (by decide) (by decide)⟩
theorem bx_loop {y n : Nat} {p0 x3 y0 n0 : Int} (hy0 : y0 = y) (hn0 : n0 = n) (hB : h_B M 0 g) (hd : hd_d2 M 0 g y n) (hk : g (28 * (y : Int)) = 2) (hy40 : y < 40) (ok : ∀ l, l < n → bx_ok M g (cu_ln g (y : Int) l)) (hj : bx_oc g (cu_ln g (y : Int)) n ≤ 40) (hg : bx_og g (cu_ln g (y : Int)) n ≤ 40) : ∀ (d i : Nat) (i0 : Int) (N : EM), i0 = i → i + d = n → bx_SP g M N (cu_ln g (y : Int)) i → ∃ N', E_V 1 101 [170, p0, 10, x3, y0, n0, i0] N = some (0, N') ∧ bx_SP g M N' (cu_ln g (y : Int)) n ∧ N' 170 7 = N 170 7 := by
  obtain ⟨⟨n1, n6⟩, b1, b2, b3, b4⟩ := hd
  intro d
  induction d with
  | zero =>
    intro i i0 N hi hd hS
    have e : i = n := by omega
    subst e
    have q : ¬ (i0 < n0) := by omega
    refine ⟨N, ?_, hS, rfl⟩
    rw [E_V_eq]
    show e_tv E_C (E_V 1) e_t1_101 [170, p0, 10, x3, y0, n0, i0] N = _
    unfold e_t1_101
    simp [zq_a, zq_b, zq_c, zq_d, zq_e, zq_f, zq_g, zq_h, zq_i, zq_j, zq_k, zq_l, zq_m, zq_n, zq_o, zq_p, zq_q, zq_r, zq_s, zq_t, zq_u, zq_v, zq_w, zq_x, zq_y, zq_z, zq_A, zq_B, zq_C, zq_D, zq_E, zq_F, zq_G, zq_H, zq_I, zq_J, zq_K, zq_L, ↓zq_M, ↓zq_N, ↓zq_O, ↓zq_P, ↓zq_Q, ↓zq_R, zq_S, zq_T, zq_U, zq_V, zq_W, zq_X, zq_Y, zq_Z, zq_0, zq_1, zq_2, zq_3, zq_4, zq_5, ↓zq_6, ↓zq_7, ↓zq_8, ↓zq_9, ↓zq_aa, zq_ab, zq_ac, zq_ad, zq_ae, zq_af, zq_ag, ↓zq_ah, ↓zq_ai, ↓zq_aj, zq_ak, ↓zq_al, ↓zq_am, e_b1, e_b2, x_o1, x_o2, q]
  | succ d ih =>
    intro i i0 N hi hd hS
    have q : i0 < n0 := by omega
    have m1 := bx_oc_m (g := g) (X := cu_ln g (y : Int)) (n - (i + 1)) (i + 1)
    have m2 := bx_og_m (g := g) (X := cu_ln g (y : Int)) (n - (i + 1)) (i + 1)
    rw [show i + 1 + (n - (i + 1)) = n by omega] at m1 m2
    obtain ⟨N1, s1, s2, s3⟩ := bx_add hB hS (by omega) (ok i (by omega)) (by omega) (by omega)
    obtain ⟨N', k, k2, k3⟩ := ih (i + 1) (i0 + 1) N1 (by omega) (by omega) s2
    refine ⟨N', ?_, k2, k3.trans s3⟩
    have ex : cu_ln g (y : Int) i = g (28 * (y : Int) + 3 + (i : Int)) := if_pos hk
    have t := w_atN (a := 15) (i := y0 * 8 + i0) (n := 320) (by decide +kernel) (j := 8 * y + i) (by omega) (by omega) N
    have t' : E_C 146 [15, y0 * 8 + i0] N = some (cu_ln g (y : Int) i, N) := t.trans (by rw [show N (15 : Int).toNat (8 * y + i) = M (15 + 0) (8 * y + i) from hS.2.2.2.2.2.2.2.1 _ _ (by omega), (b4 i (by omega)).1.1, ex])
    have w1 : e_w (y0 * 8) = y0 * 8 := a_w_id (by omega) (by omega)
    have w2 : e_w (y0 * 8 + i0) = y0 * 8 + i0 := a_w_id (by omega) (by omega)
    have w4 : e_w (i0 + 1) = i0 + 1 := a_w_id (by omega) (by omega)
    rw [E_V_eq]
    show e_tv E_C (E_V 1) e_t1_101 [170, p0, 10, x3, y0, n0, i0] N = _
    unfold e_t1_101
    simp [zq_a, zq_b, zq_c, zq_d, zq_e, zq_f, zq_g, zq_h, zq_i, zq_j, zq_k, zq_l, zq_m, zq_n, zq_o, zq_p, zq_q, zq_r, zq_s, zq_t, zq_u, zq_v, zq_w, zq_x, zq_y, zq_z, zq_A, zq_B, zq_C, zq_D, zq_E, zq_F, zq_G, zq_H, zq_I, zq_J, zq_K, zq_L, ↓zq_M, ↓zq_N, ↓zq_O, ↓zq_P, ↓zq_Q, ↓zq_R, zq_S, zq_T, zq_U, zq_V, zq_W, zq_X, zq_Y, zq_Z, zq_0, zq_1, zq_2, zq_3, zq_4, zq_5, ↓zq_6, ↓zq_7, ↓zq_8, ↓zq_9, ↓zq_aa, zq_ab, zq_ac, zq_ad, zq_ae, zq_af, zq_ag, ↓zq_ah, ↓zq_ai, ↓zq_aj, zq_ak, ↓zq_al, ↓zq_am, e_b1, e_b2, x_o1, x_o2, w_P5, q, w1, w2, w4, t', s1, k]
/-- the bench cleared -/
theorem bx_SP0 {b : Int} {X : Nat → Int} (h171 : M 171 0 = 0) : bx_SP g M (e_up (bx_cl M) 170 7 b) X 0 := by
  have cl : ∀ id k, ¬ (id = 172) → ¬ (id = 170) → bx_cl M id k = M id k := fun id k h1 h2 => by
    unfold bx_cl bx_fl
    rw [if_neg (fun e => h1 e.1), c_up_n (fun e => h2 e.1), c_up_n (fun e => h2 e.1), c_up_n (fun e => h2 e.1)]
  have c170 : ∀ k, bx_cl M 170 k = e_up (e_up (e_up M 170 0 0) 170 4 0) 170 5 0 170 k := fun k => by
    unfold bx_cl bx_fl
    exact if_neg (fun e => absurd e.1 (by decide))
  refine ⟨?_, ?_, ?_, fun l hl => ?_, fun l k hl => absurd hl (Nat.not_lt_zero _), fun l k hl => absurd hl (Nat.not_lt_zero _), fun y _ hy => ?_, fun id k h => ?_, fun k h0 h4 h5 h7 => ?_⟩
  · rw [c_up_n (by omega), c170, c_up_n (by omega), c_up_n (by omega), c_up_s]; rfl
  · rw [c_up_n (by omega), c170, c_up_n (by omega), c_up_s]; rfl
  · rw [c_up_n (by omega), c170, c_up_s]; rfl
  · have e : l = 0 := by omega
    subst e
    rw [c_up_n (by omega), cl _ _ (by decide) (by decide)]
    exact h171
  · rw [c_up_n (by omega)]
    exact if_pos ⟨rfl, Nat.zero_le _, hy⟩
  · rw [c_up_n (by omega)]
    exact cl _ _ (by omega) (by omega)
  · rw [c_up_n (by omega), c170, c_up_n (by omega), c_up_n (by omega), c_up_n (by omega)]
/-- a PART spread out -/
theorem bx_1 {p : Nat} (hB : h_B M 0 g) (hD : hd_D M 0 g) (hp : (p : Int) < g 1198) (h171 : M 171 0 = 0) : ∃ M', E_C 1 [170, (p : Int)] M = some (0, M') ∧ bx_SP g M M' (cu_ln g (cu_in g (p : Int))) (cu_nl g (cu_in g (p : Int))) ∧ M' 170 7 = (if g (28 * cu_in g (p : Int)) = 2 then 1 else 0) := by
  have h40 := hB.2.1.2
  obtain ⟨p0, hp0⟩ : ∃ p0 : Int, (p : Int) = p0 := ⟨_, rfl⟩
  obtain ⟨b1, -, ⟨b3, b4⟩, -⟩ := hB.2.2 p hp
  have b1 : M 11 p = g (28 * (p : Int)) := b1
  obtain ⟨-, -, -, d3⟩ := hD p hp
  -- the inner PART
  have inn : ∃ y : Nat, cu_in g (p : Int) = y ∧ (y : Int) < g 1198 ∧ g (28 * (y : Int)) ≠ 3 ∧ (g (28 * (p : Int)) = 3 → M 15 (8 * p) = y) ∧ (g (28 * (p : Int)) ≠ 3 → y = p) := by
    by_cases c : g (28 * (p : Int)) = 3
    · obtain ⟨⟨c1, c2, c3, ⟨m1, m2, m3, m4, m5⟩, c5⟩, -⟩ := d3 c
      have e0 : (28 * (p : Int) + 3 + ((0 : Nat) : Int)) = 28 * (p : Int) + 3 := by omega
      rw [e0] at m1 m2 m3 c5
      obtain ⟨y, hy⟩ : ∃ y : Nat, g (28 * (p : Int) + 3) = y := ⟨(g (28 * (p : Int) + 3)).toNat, by omega⟩
      refine ⟨y, ?_, by omega, by rw [← hy]; exact c5, fun _ => ?_, fun h => absurd c h⟩
      · unfold cu_in
        rw [if_pos c, hy]
      · rw [← hy]
        exact m1
    · refine ⟨p, ?_, hp, c, fun h => absurd h c, fun _ => rfl⟩
      unfold cu_in
      rw [if_neg c]
  obtain ⟨y, hy, y1, y3, y4, y5⟩ := inn
  rw [hy]
  obtain ⟨⟨l1, l6⟩, ok, cap, capg⟩ := bx_lines h40 hB hD y1 y3
  have y40 : y < 40 := by omega
  have p40 : p < 40 := by omega
  obtain ⟨y0, hy0⟩ : ∃ y0 : Int, (y : Int) = y0 := ⟨_, rfl⟩
  obtain ⟨c1, -, -, -⟩ := hB.2.2 y y1
  have c1 : M 11 y = g (28 * (y : Int)) := c1
  obtain ⟨b, hb⟩ : ∃ b : Int, (if g (28 * (y : Int)) = 2 then (1 : Int) else 0) = b := ⟨_, rfl⟩
  rw [hb]
  obtain ⟨Z, hZ⟩ : ∃ Z, bx_cl M = Z := ⟨_, rfl⟩
  have S0 := bx_SP0 (g := g) (b := b) (X := cu_ln g (y : Int)) h171
  rw [hZ] at S0
  have fZ : ∀ id k, ¬ (170 ≤ id ∧ id ≤ 176) → Z id k = M id k := fun id k h => (by
    have := S0.2.2.2.2.2.2.2.1 id k h
    rw [c_up_n (by omega)] at this
    exact this)
  have t11 := fun (j : Nat) (j0 : Int) (h : j0 = j) (h2 : j < 40) => (w_atN (a := 11) (i := j0) (n := 40) (by decide +kernel) (j := j) h h2 Z).trans (by rw [show Z (11 : Int).toNat j = M 11 j from fZ _ _ (by omega)])
  have tp := t11 p p0 hp0.symm p40
  have ty := t11 y y0 hy0.symm y40
  rw [b1] at tp
  rw [c1] at ty
  have cl : E_C 3 [170] M = some (0, Z) := by rw [← hZ]; exact bx_clear M
  have w1 : e_w (p0 * 8) = p0 * 8 := a_w_id (by omega) (by omega)
  have t15 : g (28 * (p : Int)) = 3 → E_C 146 [15, p0 * 8] Z = some (y0, Z) := fun h => by
    have t := w_atN (a := 15) (i := p0 * 8) (n := 320) (by decide +kernel) (j := 8 * p) (by omega) (by omega) Z
    exact t.trans (by rw [show Z (15 : Int).toNat (8 * p) = M 15 (8 * p) from fZ _ _ (by omega), y4 h, hy0])
  -- what stands behind the choice of the inner PART
  have go : ∀ x3 : Int, ∃ M', (if b = 0 then (E_C 4 [170, y0] (e_up Z 170 7 b)).bind (fun r => some (0, r.2)) else (E_C 146 [14, y0] (e_up Z 170 7 b)).bind (fun r => E_V 1 101 [170, p0, 10, x3, y0, r.1, 0] r.2)) = some (0, M') ∧ bx_SP g M M' (cu_ln g (y : Int)) (cu_nl g (y : Int)) ∧ M' 170 7 = b := by
    intro x3
    by_cases c : g (28 * (y : Int)) = 2
    · rw [if_pos c] at hb
      obtain ⟨n, hd⟩ := (hD y y1).2.2.1 c
      have eL : cu_nl g (y : Int) = n := by
        unfold cu_nl
        rw [if_pos c, hd.2.1, Int.toNat_natCast]
      rw [eL] at ok cap capg ⊢
      obtain ⟨N', k, k2, k3⟩ := bx_loop (p0 := p0) (x3 := x3) (y0 := y0) (n0 := (n : Int)) hy0.symm rfl hB hd c y40 ok cap capg n 0 0 _ rfl (by omega) S0
      refine ⟨N', ?_, k2, k3.trans c_up_s⟩
      have t14 := w_atN (a := 14) (i := y0) (n := 40) (by decide +kernel) (j := y) hy0.symm y40 (e_up Z 170 7 b)
      have t14' : E_C 146 [14, y0] (e_up Z 170 7 b) = some ((n : Int), e_up Z 170 7 b) := t14.trans (by rw [show (e_up Z 170 7 b) (14 : Int).toNat y = M (14 + 0) y from (c_up_n (by omega)).trans (fZ _ _ (by omega)), hd.2.2.1])
      rw [if_neg (by omega), t14']
      exact k
    · rw [if_neg c] at hb
      have eL : cu_nl g (y : Int) = 1 := if_neg c
      have eX : cu_ln g (y : Int) 0 = y := if_neg c
      rw [eL] at ok cap capg ⊢
      obtain ⟨N', s1, s2, s3⟩ := bx_add hB S0 (by decide) (ok 0 (by decide)) cap capg
      refine ⟨N', ?_, s2, s3.trans c_up_s⟩
      rw [eX, hy0] at s1
      rw [if_pos hb.symm, s1]
      rfl
  rw [hp0]
  by_cases c3 : g (28 * (p : Int)) = 3
  · obtain ⟨M', m1, m2, m3⟩ := go 1
    refine ⟨M', ?_, m2, m3⟩
    have t15' := t15 c3
    rw [c3] at tp
    rw [r_ent (show e_rok 1 [170, p0] = true from bx_r (M := M) rfl (by decide +kernel))]
    show e_tv E_C (E_V 1) e_t1_0 [170, p0, 0, 0, 0, 0, 0] M = _
    unfold e_t1_0
    by_cases c : g (28 * (y : Int)) = 2
    · rw [if_pos c] at hb
      subst hb
      rw [if_neg (by decide)] at m1
      rw [c] at ty
      cases h14 : E_C 146 [14, y0] (e_up Z 170 7 1) with
      | none => rw [h14] at m1; cases m1
      | some r =>
        rw [h14] at m1
        have m1' : E_V 1 101 [170, p0, 10, 1, y0, r.1, 0] r.2 = some (0, M') := m1
        simp [e_tv, e_ev, e_sv, e_b1, e_b2, x_o1, x_o2, bx_G3, bx_F7, bx_P7, w_H0, w_P1, w_P4, w_P5, cl, tp, t15', ty, w1, h14, m1', c_up_s]
    · rw [if_neg c] at hb
      subst hb
      rw [if_pos rfl] at m1
      cases h4 : E_C 4 [170, y0] (e_up Z 170 7 0) with
      | none => rw [h4] at m1; cases m1
      | some r =>
        rw [h4] at m1
        have m1' : r.2 = M' := (Prod.mk.inj (Option.some.inj m1)).2
        simp [e_tv, e_ev, e_sv, e_b1, e_b2, x_o1, x_o2, bx_G3, bx_F7, bx_P7, w_H0, w_P1, w_P5, cl, tp, t15', ty, c, w1, h4, m1', c_up_s]
  · obtain ⟨M', m1, m2, m3⟩ := go 0
    refine ⟨M', ?_, m2, m3⟩
    have e := y5 c3
    have ey : y0 = p0 := by omega
    rw [ey] at m1 ty
    rw [r_ent (show e_rok 1 [170, p0] = true from bx_r (M := M) rfl (by decide +kernel))]
    show e_tv E_C (E_V 1) e_t1_0 [170, p0, 0, 0, 0, 0, 0] M = _
    unfold e_t1_0
    by_cases c : g (28 * (y : Int)) = 2
    · rw [if_pos c] at hb
      subst hb
      rw [if_neg (by decide)] at m1
      rw [c] at ty
      cases h14 : E_C 146 [14, p0] (e_up Z 170 7 1) with
      | none => rw [h14] at m1; cases m1
      | some r =>
        rw [h14] at m1
        have m1' : E_V 1 101 [170, p0, 10, 0, p0, r.1, 0] r.2 = some (0, M') := m1
        simp [e_tv, e_ev, e_sv, e_b1, e_b2, x_o1, x_o2, bx_G3, bx_F7, bx_P7, w_H0, w_P1, w_P4, cl, ty, h14, m1', c_up_s]
    · rw [if_neg c] at hb
      subst hb
      rw [if_pos rfl] at m1
      rw [e] at c ty
      cases h4 : E_C 4 [170, p0] (e_up Z 170 7 0) with
      | none => rw [h4] at m1; cases m1
      | some r =>
        rw [h4] at m1
        have m1' : r.2 = M' := (Prod.mk.inj (Option.some.inj m1)).2
        simp [e_tv, e_ev, e_sv, e_b1, e_b2, x_o1, x_o2, bx_G3, bx_F7, bx_P7, w_H0, w_P1, cl, ty, c3, c, h4, m1', c_up_s]
end BXM
end
