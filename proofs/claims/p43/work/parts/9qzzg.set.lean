section
/-! settings of CELLS changed on the bench, CAUSES off or an HOUR asked in the reference: BEST POWER by both -/
def hd_SHs (g : Int → Int) (S : Int → Nat → Int) (q : Int) : Int := if g (28 * q + 19) = 0 then (S q 0 * (100 - S q 1) * (100 - S q 2)).tdiv 10000 else 0
def st_ok (g : Int → Int) (S : Int → Nat → Int) : Prop := ∀ q : Nat, (q : Int) < g 1198 → g (28 * (q : Int)) = 0 → ∀ a, a < 4 → 0 ≤ S q a ∧ S q a ≤ 100
def ax_s (g : Int → Int) (S : Int → Nat → Int) (p u : Int) : Int := bx_s g (hd_SHs g S) (fun q => S q 3) (hd_DI g) (cu_ln g (cu_in g p)) (cu_nl g (cu_in g p)) u
def ax_b0 (g : Int → Int) (S : Int → Nat → Int) (p : Int) : Nat := cu_b (fun u => ax_s g S p (u : Int)) 500
def ax_PW (g : Int → Int) (S : Int → Nat → Int) (p : Int) : Int := (ax_b0 g S p : Int) * ax_s g S p (ax_b0 g S p : Int)
theorem ax_PW_bd {g : Int → Int} {S : Int → Nat → Int} {p : Int} (h : cu_nl g (cu_in g p) ≤ 6) : 0 ≤ ax_PW g S p ∧ ax_PW g S p ≤ 1000000 := by
  have b : ax_b0 g S p ≤ 500 := cu_b_le _
  have s : 0 ≤ ax_s g S p (ax_b0 g S p : Int) ∧ ax_s g S p (ax_b0 g S p : Int) ≤ 600 := bx_s_bd h
  exact (bx_pw (u := (ax_b0 g S p : Int)) (z := ax_s g S p (ax_b0 g S p : Int)) ⟨by omega, by omega⟩ ⟨s.1, by omega⟩).2
theorem hd_bds {g : Int → Int} {S : Int → Nat → Int} (h : st_ok g S) : bx_bd g (hd_SHs g S) (fun q => S q 3) := by
  intro q hq hk
  refine ⟨?_, h q hq hk 3 (by decide)⟩
  unfold hd_SHs
  by_cases z : g (28 * (q : Int) + 19) = 0
  · rw [if_pos z]
    exact (bx_shv (h q hq hk 0 (by decide)) (h q hq hk 1 (by decide)) (h q hq hk 2 (by decide))).2
  · rw [if_neg z]
    decide
/-- a CELL of the bench, as it was told -/
def hd_rw (g : Int → Int) (N : EM) (j q : Nat) : Prop := N 174 j = q ∧ (q : Int) < g 1198 ∧ g (28 * (q : Int)) = 0 ∧ (∀ a : Nat, a < 4 → N 175 (4 * j + a) = g (28 * (q : Int) + 15 + (a : Int))) ∧ N 176 j = g (28 * (q : Int) + 19)
theorem hd_raw {g : Int → Int} {M N : EM} {X : Nat → Int} {L : Nat} (h40 : g 1198 ≤ 40) (hC : h_C M 0 g) (ok : ∀ l, l < L → bx_ok M g (X l)) (hS : bx_SP g M N X L) : ∀ j, j < bx_oc g X L → ∃ q, hd_rw g N j q := by
  intro j hj
  obtain ⟨l, k, h1, h2, h3, -⟩ := bx_fc_at L j hj
  have c := hS.2.2.2.2.1 l k h1 h2
  rw [← h3] at c
  have b := bx_ok_ce h40 (ok l h1) h2
  obtain ⟨z, z1, z2, z3⟩ := ok l h1
  obtain ⟨q, hq⟩ : ∃ q : Nat, bx_ce g (X l) k = q := ⟨(bx_ce g (X l) k).toNat, by omega⟩
  rw [hq, Int.toNat_natCast] at c
  have qq : (q : Int) < g 1198 ∧ g (28 * (q : Int)) = 0 := by
    rcases z3 with z3 | ⟨z3, n, gr, ⟨-, b1, -, b3, -, -, b6⟩⟩
    · have e : bx_ce g (X l) k = X l := if_pos (by rw [z1]; exact z3)
      rw [← hq, e, z1]
      exact ⟨z2, z3⟩
    · have kn : ¬ g (28 * X l) = 0 := by rw [z1]; omega
      have en : bx_nc g (X l) = n := by
        unfold bx_nc
        rw [if_neg kn, z1, b1, Int.toNat_natCast]
      obtain ⟨⟨m1, m2, m3, -, -⟩, c2, -⟩ := b6 k (by omega)
      have e : bx_ce g (X l) k = g (28 * X l + 3 + (k : Int)) := if_neg kn
      rw [← hq, e, z1]
      exact ⟨by omega, c2⟩
  obtain ⟨d1, d2, d3, d4⟩ := c
  obtain ⟨c1, c2, -⟩ := hC q qq.1 qq.2
  exact ⟨q, d1, qq.1, qq.2, fun a ha => (d4 a ha).trans (c1 a ha).1, d3.trans c2.1⟩
theorem hd_kn2 {g : Int → Int} {S : Int → Nat → Int} {N N' : EM} {j q : Nat} (hS : st_ok g S) (h : hd_rw g N j q) (h1 : ∀ a, a < 4 → N' 175 (4 * j + a) = S q a) (h2 : ∀ id k, id ≠ 175 → N' id k = N id k) : bx_kn g (hd_SHs g S) (fun q => S q 3) N' j := by
  obtain ⟨d1, d2, d3, d4, d5⟩ := h
  have b := hS q d2 d3
  have a0 := h1 0 (by decide)
  rw [Nat.add_zero] at a0
  refine ⟨q, (h2 _ _ (by decide)).trans d1, d2, d3, fun a ha => by rw [h1 a ha]; exact b a ha, ?_, h1 3 (by decide)⟩
  unfold bx_sh hd_SHs
  rw [(h2 _ _ (by decide)).trans d5, a0, h1 1 (by decide), h1 2 (by decide)]
/-- the class: spread, settings changed, BEST -/
theorem ax_sp {M : EM} {p : Nat} (h : hd_all M) (hp : (p : Int) < r_G M 1198) : ∃ N, E_C 1 [170, (p : Int)] M = some (0, N) ∧ N 170 0 = (ax_nc (r_G M) (p : Int) : Int) ∧ ax_nc (r_G M) (p : Int) ≤ 40 ∧ (∀ j, j < ax_nc (r_G M) (p : Int) → ∃ q, hd_rw (r_G M) N j q) ∧ (∀ id k, ¬ (170 ≤ id ∧ id ≤ 176) → N id k = M id k) ∧ N 171 0 = 0 ∧ ∀ S N', st_ok (r_G M) S → (∀ j q, j < ax_nc (r_G M) (p : Int) → hd_rw (r_G M) N j q → ∀ a, a < 4 → N' 175 (4 * j + a) = S q a) → (∀ id k, id ≠ 175 → N' id k = N id k) → ∃ M', E_C 21 [170] N' = some (0, M') ∧ M' 170 1 = ax_PW (r_G M) S (p : Int) ∧ M' 171 0 = 0 ∧ ∀ id k, ¬ (170 ≤ id ∧ id ≤ 181) → M' id k = M id k := by
  obtain ⟨N, k, hX, hS, hN, h7, e, h0⟩ := ax_1 h hp
  obtain ⟨hB, hC, hD, h171⟩ := h
  have h40 := hB.2.1.2
  have raw := hd_raw h40 hC hX.2.1 hS
  have fr := hS.2.2.2.2.2.2.2.1
  refine ⟨N, k, hN.2.1, hX.2.2.1, raw, fr, h0, fun S N' hs h1 h2 => ?_⟩
  obtain ⟨n1, n2, n3, n4, n5, n6⟩ := hN
  have hN' : bx_ND (r_G M) (hd_SHs (r_G M) S) (fun q => S q 3) (hd_DI (r_G M)) (cu_ln (r_G M) (cu_in (r_G M) (p : Int))) (cu_nl (r_G M) (cu_in (r_G M) (p : Int))) N' := by
    refine ⟨fun j hj => ?_, (h2 _ _ (by decide)).trans n2, (h2 _ _ (by decide)).trans n3, fun l hl => (h2 _ _ (by decide)).trans (n4 l hl), fun l k hl hk => ?_, fun l y hl hy => (h2 _ _ (by decide)).trans (n6 l y hl hy)⟩
    · obtain ⟨q, hq⟩ := raw j hj
      exact hd_kn2 hs hq (h1 j q hj hq) h2
    · rw [h2 _ _ (by decide), h2 _ _ (by decide)]
      exact n5 l k hl hk
  obtain ⟨M', m, m6, ms, m2, m1, mf⟩ := bx_21 h40 hD (fun id hid => funext fun k => (h2 _ _ (by omega)).trans (congrFun (e id hid) k)) (hd_bds hs) hX hN'
  exact ⟨M', m, m1, (mf _ _ (by decide) (by omega)).trans ((h2 _ _ (by decide)).trans h0), fun id k hid => (mf _ _ (by omega) (by omega)).trans ((h2 _ _ (by omega)).trans (fr _ _ (by omega)))⟩
/-- nothing that is told has changed -/
theorem hd_all_fr {M M' : EM} (h : hd_all M) (f : ∀ id k, ¬ (170 ≤ id ∧ id ≤ 191) → M' id k = M id k) (h0 : M' 171 0 = 0) : hd_all M' := by
  obtain ⟨hB, hC, hD, -⟩ := h
  have eG : r_G M' = r_G M := funext fun i => f _ _ (by decide)
  have e : ∀ id, id < 162 → M' id = M id := fun id hid => funext fun k => f _ _ (by omega)
  unfold hd_all
  rw [eG]
  refine ⟨?_, ?_, fun q hq => ?_, h0⟩
  · unfold h_B
    rw [e (10 + 0) (by decide), e (11 + 0) (by decide), e (13 + 0) (by decide)]
    exact hB
  · intro q hq
    unfold h_Cq
    rw [e (21 + 0) (by decide), e (22 + 0) (by decide), e (23 + 0) (by decide), e (24 + 0) (by decide)]
    exact hC q hq
  · have q40 : q < 40 := by have := hB.2.1.2; omega
    refine hd_q_cg (hD q hq) ⟨rfl, rfl, fun _ _ _ _ _ => rfl⟩ (fun _ _ _ => ⟨rfl, fun _ => rfl⟩) ⟨?_, ?_, fun k _ => ⟨?_, ?_, ?_⟩, fun i _ => ⟨?_, ?_⟩, fun k _ => ?_⟩
    · rw [e (12 + 0) (by decide)]
    · rw [e (14 + 0) (by decide)]
    · rw [e (15 + 0) (by decide)]
    · rw [e (16 + 0) (by decide)]
    · rw [e (17 + 0) (by decide)]
    · rw [e (19 + 0) (by decide)]
    · rw [e (20 + 0) (by decide)]
    · rw [e (37 + 0 + q) (by omega)]
/-- the reference: BEST POWER, however it is asked -/
theorem rx_209 {M : EM} {g : Int → Int} {S : Int → Nat → Int} {p : Int} (hG : r_G M = g) (hW : r_W g) (hm : rx_MD M (hd_SHs g S) (fun q => S q 3) (hd_DI g)) (hcv : hd_cvs g) (hp : 0 ≤ p ∧ p < g 1198) (h6 : cu_nl g (cu_in g p) ≤ 6) : ∃ M', E_C 209 [192, p] M = some (ax_PW g S p, M') ∧ rx_sm M M' := by
  obtain ⟨M', k, sm, hs⟩ := rx_gives hG hm hcv (b := g 1198) hW.2.1 (Int.le_refl _) (hW.2.2.1 p hp.1 hp.2)
  have hs : ∀ u : Nat, u < 1000 → M' 205 u = ax_s g S p (u : Int) := hs
  have sb : ∀ u : Int, 0 ≤ ax_s g S p u ∧ ax_s g S p u ≤ 600 := fun u => bx_s_bd h6
  have bo := rx_208 (M := M') (s := fun u => ax_s g S p (u : Int)) (fun u hu => hs u (by omega)) (fun u _ => ⟨(sb u).1, by have := (sb u).2; omega⟩)
  have bl : ax_b0 g S p ≤ 500 := cu_b_le _
  have bo' : E_C 208 [192] M' = some ((ax_b0 g S p : Int), M') := bo
  have l1 : e_op 60 [205, (ax_b0 g S p : Int)] M' = some (ax_s g S p (ax_b0 g S p : Int)) := (r_rd5 (by omega) (by omega)).trans (by rw [Int.toNat_natCast, hs _ (by omega)])
  have pw := (bx_pw (u := (ax_b0 g S p : Int)) (z := ax_s g S p (ax_b0 g S p : Int)) ⟨by omega, by omega⟩ ⟨(sb _).1, by have := (sb (ax_b0 g S p : Int)).2; omega⟩).1
  refine ⟨M', ?_, sm⟩
  unfold ax_PW
  clear hs sb bo bl
  generalize ax_s g S p (ax_b0 g S p : Int) = z at *
  generalize (ax_b0 g S p : Int) = b at *
  rw [r_ent (show e_rok 209 [192, p] = true from decide_eq_true r_ref)]
  show e_tv E_C (E_V 209) e_t209_0 [192, p, 0] M = _
  unfold e_t209_0
  simp [zq_a, zq_b, zq_c, zq_d, zq_e, zq_f, zq_g, zq_h, zq_i, zq_j, zq_k, zq_l, zq_m, zq_n, zq_o, zq_p, zq_q, zq_r, zq_s, zq_t, zq_u, zq_v, zq_w, zq_x, zq_y, zq_z, zq_A, zq_B, zq_C, zq_D, zq_E, zq_F, zq_G, zq_H, zq_I, zq_J, zq_K, zq_L, ↓zq_M, ↓zq_N, ↓zq_O, ↓zq_P, ↓zq_Q, ↓zq_R, zq_S, zq_T, zq_U, zq_V, zq_W, zq_X, zq_Y, zq_Z, zq_0, zq_1, zq_2, zq_3, zq_4, zq_5, ↓zq_6, ↓zq_7, ↓zq_8, ↓zq_9, ↓zq_aa, zq_ab, zq_ac, zq_ad, zq_ae, zq_af, zq_ag, ↓zq_ah, ↓zq_ai, ↓zq_aj, zq_ak, ↓zq_al, ↓zq_am, e_b1, e_b2, x_o1, x_o2, r_O25, k, bo', l1, pw]
/-- DIODES, whatever CAUSES are off -/
theorem rx_diK {M : EM} {q : Int} {y : Nat} (k24 : M 192 24 = -1) (hq : 0 ≤ q ∧ q < 40) (hy : y < 8) : E_C 200 [192, q, (y : Int)] M = some (hd_DI (r_G M) q y, M) := by
  obtain ⟨yy, hyy⟩ : ∃ yy : Int, (y : Int) = yy := ⟨_, rfl⟩
  unfold hd_DI
  rw [hyy]
  have y0 : 0 ≤ yy ∧ yy < 8 := by omega
  have l1 : e_op 60 [193, 28 * q + 20 + yy] M = some (r_G M (28 * q + 20 + yy)) := r_rd (by omega) (by omega)
  have c2 : ¬ (-1 = 8 * q + yy) := by omega
  have w1 : e_w (28 * q) = 28 * q := a_w_id (by omega) (by omega)
  have w2 : e_w (28 * q + 20) = 28 * q + 20 := a_w_id (by omega) (by omega)
  have w3 : e_w (28 * q + 20 + yy) = 28 * q + 20 + yy := a_w_id (by omega) (by omega)
  have w4 : e_w (8 * q) = 8 * q := a_w_id (by omega) (by omega)
  have w5 : e_w (8 * q + yy) = 8 * q + yy := a_w_id (by omega) (by omega)
  by_cases c1 : r_G M (28 * q + 20 + yy) = 1
  · rw [if_pos c1]
    rw [c1] at l1
    rw [r_ent (show e_rok 200 [192, q, yy] = true from decide_eq_true r_ref)]
    show e_tv E_C (E_V 200) e_t200_0 [192, q, yy] M = _
    unfold e_t200_0
    simp [zq_a, zq_b, zq_c, zq_d, zq_e, zq_f, zq_g, zq_h, zq_i, zq_j, zq_k, zq_l, zq_m, zq_n, zq_o, zq_p, zq_q, zq_r, zq_s, zq_t, zq_u, zq_v, zq_w, zq_x, zq_y, zq_z, zq_A, zq_B, zq_C, zq_D, zq_E, zq_F, zq_G, zq_H, zq_I, zq_J, zq_K, zq_L, ↓zq_M, ↓zq_N, ↓zq_O, ↓zq_P, ↓zq_Q, ↓zq_R, zq_S, zq_T, zq_U, zq_V, zq_W, zq_X, zq_Y, zq_Z, zq_0, zq_1, zq_2, zq_3, zq_4, zq_5, ↓zq_6, ↓zq_7, ↓zq_8, ↓zq_9, ↓zq_aa, zq_ab, zq_ac, zq_ad, zq_ae, zq_af, zq_ag, ↓zq_ah, ↓zq_ai, ↓zq_aj, zq_ak, ↓zq_al, ↓zq_am, e_b1, e_b2, x_o1, x_o2, r_O0, r_F24, k24, w1, w2, w3, w4, w5, l1, c2]
  · rw [if_neg c1]
    rw [r_ent (show e_rok 200 [192, q, yy] = true from decide_eq_true r_ref)]
    show e_tv E_C (E_V 200) e_t200_0 [192, q, yy] M = _
    unfold e_t200_0
    simp [zq_a, zq_b, zq_c, zq_d, zq_e, zq_f, zq_g, zq_h, zq_i, zq_j, zq_k, zq_l, zq_m, zq_n, zq_o, zq_p, zq_q, zq_r, zq_s, zq_t, zq_u, zq_v, zq_w, zq_x, zq_y, zq_z, zq_A, zq_B, zq_C, zq_D, zq_E, zq_F, zq_G, zq_H, zq_I, zq_J, zq_K, zq_L, ↓zq_M, ↓zq_N, ↓zq_O, ↓zq_P, ↓zq_Q, ↓zq_R, zq_S, zq_T, zq_U, zq_V, zq_W, zq_X, zq_Y, zq_Z, zq_0, zq_1, zq_2, zq_3, zq_4, zq_5, ↓zq_6, ↓zq_7, ↓zq_8, ↓zq_9, ↓zq_aa, zq_ab, zq_ac, zq_ad, zq_ae, zq_af, zq_ag, ↓zq_ah, ↓zq_ai, ↓zq_aj, zq_ak, ↓zq_al, ↓zq_am, e_b1, e_b2, x_o1, x_o2, r_O0, w1, w2, w3, l1, c1]
theorem hd_DI_01 {g : Int → Int} {q : Int} {y : Nat} : hd_DI g q y = 0 ∨ hd_DI g q y = 1 := by
  unfold hd_DI
  by_cases c : g (28 * q + 20 + (y : Int)) = 1
  · rw [if_pos c]; exact Or.inr rfl
  · rw [if_neg c]; exact Or.inl rfl
end
section
/-! keep, weight, toss: what is kept of a PART; the pairs -/
def tf (kd cur : Int) : Int := if kd = 3 ∨ cur = 0 then -15 else if kd = 2 then 1000 + cur else cur
def wt (g : Int → Int) (k : Int) : Int := if g (28 * k) = 0 then 10 + k + g (28 * k + 3 + (g (28 * k + 2) - 1)) else if g (28 * k) = 3 then 10 + k + g (28 * k + 5) else if g (28 * k) = 2 then 2 * (10 + k + 10 * (ax_nc g k : Int)) else 10 + k + 10 * (ax_nc g k : Int)
def h_WW (M : EM) : Prop := ∀ d : Nat, d < 8 → M 195 d = 1 → M (146 + 2 * d) 2 = M 200 d ∧ M (146 + 2 * d) 3 = tf (M 199 d) (M 201 d) ∧ 0 ≤ M 201 d ∧ M 201 d ≤ 1000
theorem hd_40 {M : EM} (h : hd_all M) : r_G M 1198 ≤ 40 := h.1.2.1.2
section WT
variable {M M1 M2 : EM} {g : Int → Int} {d w r1 r2 : Int}
/-- the class: WEIGHT of a PART -/
theorem wt_165 {k : Nat} (h : hd_all M) (hk : (k : Int) < r_G M 1198) : ∃ Ma, E_C 165 [8, (k : Int)] M = some (wt (r_G M) (k : Int), Ma) ∧ hd_all Ma ∧ ∀ id j, ¬ (170 ≤ id ∧ id ≤ 176) → Ma id j = M id j := by
  have h40 := hd_40 h
  have q40 : k < 40 := by omega
  obtain ⟨b1, b2, b3, b4⟩ := h.1.2.2 k hk
  have b1 : M 11 k = r_G M (28 * (k : Int)) := b1
  have t1 : E_C 146 [11, (k : Int)] M = some (r_G M (28 * (k : Int)), M) := (w_atN (a := 11) (n := 40) (by decide +kernel) (j := k) rfl q40 M).trans (by rw [← b1]; rfl)
  have s0 : E_C 165 [8, (k : Int)] M = e_tv E_C (E_V 165) e_t165_0 [8, (k : Int), 0, 0, 0] M := r_ent (u := 165) (as := [8, (k : Int)]) (M := M) (decide_eq_true c_this)
  rw [s0]
  unfold e_t165_0 wt
  obtain ⟨d0, d1, d2, d3⟩ := h.2.2.1 k hk
  by_cases c0 : r_G M (28 * (k : Int)) = 0
  · rw [if_pos c0]
    obtain ⟨v1, v2, v3⟩ := d0 c0
    obtain ⟨n, hn⟩ : ∃ n : Nat, r_G M (28 * (k : Int) + 2) = n := by
      obtain ⟨n, hh⟩ := v1
      exact ⟨n, hh.2.2.1⟩
    obtain ⟨n2, n6, bb, -⟩ := hd_cv_bd v1 hn
    obtain ⟨i, hi⟩ : ∃ i, n = i + 1 := ⟨n - 1, by omega⟩
    have v2 : M 12 k = n := by
      have : M 12 k = r_G M (28 * (k : Int) + 2) := v2
      rw [this, hn]
    have t2 : E_C 146 [12, (k : Int)] M = some ((n : Int), M) := (w_atN (a := 12) (n := 40) (by decide +kernel) (j := k) rfl q40 M).trans (by rw [← v2]; rfl)
    have v4 : M 19 (6 * k + i) = r_G M (28 * (k : Int) + 3 + (i : Int)) := (v3 i (by omega)).1
    have bp := (bb i (by omega)).1
    have t3 : E_C 146 [19, (k : Int) * 6 + (n : Int) - 1] M = some (r_G M (28 * (k : Int) + 3 + (i : Int)), M) := (w_atN (a := 19) (n := 240) (by decide +kernel) (j := 6 * k + i) (by omega) (by omega) M).trans (by rw [← v4]; rfl)
    have g0 : ∀ M, e_gf 64 [18] M = some 19 := fun M => p_g 64 18 19 M (by decide +kernel)
    have k37 : E_C 37 [18, (k : Int), (n : Int)] M = some (r_G M (28 * (k : Int) + 3 + (i : Int)), M) := by
      have s1 : E_C 37 [18, (k : Int), (n : Int)] M = e_tv E_C (E_V 37) e_t37_0 [18, (k : Int), (n : Int)] M := r_ent (u := 37) (as := [18, (k : Int), (n : Int)]) (M := M) (show e_rok 37 [18, (k : Int), (n : Int)] = true from by
        unfold e_rok
        rw [show q_rc (e_vm 37) = some 1 by decide +kernel]
        exact decide_eq_true (show e_isO 1 18 by decide +kernel))
      rw [s1]
      unfold e_t37_0
      have k40 : (0 ≤ (k : Int) ∧ (k : Int) < 40) ∧ 0 ≤ (n : Int) ∧ (n : Int) ≤ 6 := ⟨⟨by omega, by omega⟩, by omega, by omega⟩
      clear v3 bb d1 d2 d3 h hi hn n2 n6 q40 h40 b1 b2 b3 b4 hk c0 v1 v2 v4 t1 t2 bp
      generalize (n : Int) = nn at *
      generalize (k : Int) = kk at *
      have w1 : e_w (kk * 6) = kk * 6 := a_w_id (by omega) (by omega)
      have w2 : e_w (kk * 6 + nn) = kk * 6 + nn := a_w_id (by omega) (by omega)
      have w3 : e_w (kk * 6 + nn - 1) = kk * 6 + nn - 1 := a_w_id (by omega) (by omega)
      simp [zq_a, zq_b, zq_c, zq_d, zq_e, zq_f, zq_g, zq_h, zq_i, zq_j, zq_k, zq_l, zq_m, zq_n, zq_o, zq_p, zq_q, zq_r, zq_s, zq_t, zq_u, zq_v, zq_w, zq_x, zq_y, zq_z, zq_A, zq_B, zq_C, zq_D, zq_E, zq_F, zq_G, zq_H, zq_I, zq_J, zq_K, zq_L, ↓zq_M, ↓zq_N, ↓zq_O, ↓zq_P, ↓zq_Q, ↓zq_R, zq_S, zq_T, zq_U, zq_V, zq_W, zq_X, zq_Y, zq_Z, zq_0, zq_1, zq_2, zq_3, zq_4, zq_5, ↓zq_6, ↓zq_7, ↓zq_8, ↓zq_9, ↓zq_aa, zq_ab, zq_ac, zq_ad, zq_ae, zq_af, zq_ag, ↓zq_ah, ↓zq_ai, ↓zq_aj, zq_ak, ↓zq_al, ↓zq_am, e_b1, e_b2, x_o1, x_o2, g0, w1, w2, w3, t3]
    refine ⟨M, ?_, h, fun _ _ _ => rfl⟩
    rw [hn, show (n : Int) - 1 = (i : Int) by omega]
    clear v3 bb d1 d2 d3 h
    rw [c0] at t1
    generalize r_G M (28 * (k : Int) + 3 + (i : Int)) = z at *
    have k40 : 0 ≤ (k : Int) ∧ (k : Int) < 40 := ⟨by omega, by omega⟩
    clear hi hn n2 n6 q40 h40 b1 b2 b3 b4 hk c0 v1 v2 v4
    generalize (n : Int) = nn at *
    generalize (k : Int) = kk at *
    have w0 : e_w (10 + kk) = 10 + kk := a_w_id (by omega) (by omega)
    have w4 : e_w (10 + kk + z) = 10 + kk + z := a_w_id (by omega) (by omega)
    simp [zq_a, zq_b, zq_c, zq_d, zq_e, zq_f, zq_g, zq_h, zq_i, zq_j, zq_k, zq_l, zq_m, zq_n, zq_o, zq_p, zq_q, zq_r, zq_s, zq_t, zq_u, zq_v, zq_w, zq_x, zq_y, zq_z, zq_A, zq_B, zq_C, zq_D, zq_E, zq_F, zq_G, zq_H, zq_I, zq_J, zq_K, zq_L, ↓zq_M, ↓zq_N, ↓zq_O, ↓zq_P, ↓zq_Q, ↓zq_R, zq_S, zq_T, zq_U, zq_V, zq_W, zq_X, zq_Y, zq_Z, zq_0, zq_1, zq_2, zq_3, zq_4, zq_5, ↓zq_6, ↓zq_7, ↓zq_8, ↓zq_9, ↓zq_aa, zq_ab, zq_ac, zq_ad, zq_ae, zq_af, zq_ag, ↓zq_ah, ↓zq_ai, ↓zq_aj, zq_ak, ↓zq_al, ↓zq_am, e_b1, e_b2, x_o1, x_o2, p_704, w_H0, w_H1, w_P1, w_P2, t1, t2, k37, w0, w4]
  · rw [if_neg c0]
    by_cases c3 : r_G M (28 * (k : Int)) = 3
    · rw [if_pos c3]
      obtain ⟨-, -, ⟨e0, e1, e2⟩, -, -⟩ := d3 c3
      have e0 : M (37 + k) 1 = r_G M (28 * (k : Int) + 5) := e0
      have s := ax_155 (q := k) (M := M) q40
      rw [if_pos (b1.trans c3)] at s
      have is : e_isO 7 ((37 + k : Nat) : Int) := p_is7 (by omega)
      have g1 : ∀ M, e_gf 449 [((37 + k : Nat) : Int)] M = some (M (37 + k) 1) := fun M => c_gf is (by decide +kernel)
      have g1 := g1 M
      rw [e0] at g1
      have n1 : ¬ (((37 + k : Nat) : Int) = -1) := by omega
      refine ⟨M, ?_, h, fun _ _ _ => rfl⟩
      rw [c3] at t1
      clear d1 d2 h
      generalize r_G M (28 * (k : Int) + 5) = z at *
      have k40 : 0 ≤ (k : Int) ∧ (k : Int) < 40 := ⟨by omega, by omega⟩
      clear hk h40 q40 b1 b2 b3 b4
      generalize ((37 + k : Nat) : Int) = ss at *
      generalize (k : Int) = kk at *
      have w0 : e_w (10 + kk) = 10 + kk := a_w_id (by omega) (by omega)
      have w4 : e_w (10 + kk + z) = 10 + kk + z := a_w_id (by omega) (by omega)
      simp [zq_a, zq_b, zq_c, zq_d, zq_e, zq_f, zq_g, zq_h, zq_i, zq_j, zq_k, zq_l, zq_m, zq_n, zq_o, zq_p, zq_q, zq_r, zq_s, zq_t, zq_u, zq_v, zq_w, zq_x, zq_y, zq_z, zq_A, zq_B, zq_C, zq_D, zq_E, zq_F, zq_G, zq_H, zq_I, zq_J, zq_K, zq_L, ↓zq_M, ↓zq_N, ↓zq_O, ↓zq_P, ↓zq_Q, ↓zq_R, zq_S, zq_T, zq_U, zq_V, zq_W, zq_X, zq_Y, zq_Z, zq_0, zq_1, zq_2, zq_3, zq_4, zq_5, ↓zq_6, ↓zq_7, ↓zq_8, ↓zq_9, ↓zq_aa, zq_ab, zq_ac, zq_ad, zq_ae, zq_af, zq_ag, ↓zq_ah, ↓zq_ai, ↓zq_aj, zq_ak, ↓zq_al, ↓zq_am, e_b1, e_b2, x_o1, x_o2, p_704, w_H0, w_P1, t1, s, n1, g1, w0, w4]
    · rw [if_neg c3]
      obtain ⟨N, k1, hX, hS, hN, h7, e, z0⟩ := ax_1 h hk
      have fr := hS.2.2.2.2.2.2.2.1
      have n0 : N 170 0 = (ax_nc (r_G M) (k : Int) : Int) := hN.2.1
      have cap : ax_nc (r_G M) (k : Int) ≤ 40 := hX.2.2.1
      have hA : hd_all N := hd_all_fr h (fun id j hid => fr _ _ (by omega)) z0
      refine ⟨N, ?_, hA, fr⟩
      have k40 : (0 ≤ (k : Int) ∧ (k : Int) < 40) ∧ 0 ≤ (ax_nc (r_G M) (k : Int) : Int) ∧ (ax_nc (r_G M) (k : Int) : Int) ≤ 40 := ⟨⟨by omega, by omega⟩, by omega, by omega⟩
      clear hA fr hX hS hN e d1 d2 d3 d0 h cap hk h40 q40 b1 b2 b3 b4 z0 h7
      generalize (ax_nc (r_G M) (k : Int) : Int) = nc at *
      generalize r_G M (28 * (k : Int)) = kd at *
      generalize (k : Int) = kk at *
      have w0 : e_w (10 + kk) = 10 + kk := a_w_id (by omega) (by omega)
      have w5 : e_w (10 * nc) = 10 * nc := a_w_id (by omega) (by omega)
      have w6 : e_w (10 + kk + 10 * nc) = 10 + kk + 10 * nc := a_w_id (by omega) (by omega)
      have w7 : e_w (2 * (10 + kk + 10 * nc)) = 2 * (10 + kk + 10 * nc) := a_w_id (by omega) (by omega)
      by_cases c2 : kd = 2
      · rw [if_pos c2]
        subst c2
        simp [zq_a, zq_b, zq_c, zq_d, zq_e, zq_f, zq_g, zq_h, zq_i, zq_j, zq_k, zq_l, zq_m, zq_n, zq_o, zq_p, zq_q, zq_r, zq_s, zq_t, zq_u, zq_v, zq_w, zq_x, zq_y, zq_z, zq_A, zq_B, zq_C, zq_D, zq_E, zq_F, zq_G, zq_H, zq_I, zq_J, zq_K, zq_L, ↓zq_M, ↓zq_N, ↓zq_O, ↓zq_P, ↓zq_Q, ↓zq_R, zq_S, zq_T, zq_U, zq_V, zq_W, zq_X, zq_Y, zq_Z, zq_0, zq_1, zq_2, zq_3, zq_4, zq_5, ↓zq_6, ↓zq_7, ↓zq_8, ↓zq_9, ↓zq_aa, zq_ab, zq_ac, zq_ad, zq_ae, zq_af, zq_ag, ↓zq_ah, ↓zq_ai, ↓zq_aj, zq_ak, ↓zq_al, ↓zq_am, e_b1, e_b2, x_o1, x_o2, p_704, w_H0, w_P1, ax_bench, t1, k1, bx_F0, n0, w0, w5, w6, w7]
      · rw [if_neg c2]
        simp [zq_a, zq_b, zq_c, zq_d, zq_e, zq_f, zq_g, zq_h, zq_i, zq_j, zq_k, zq_l, zq_m, zq_n, zq_o, zq_p, zq_q, zq_r, zq_s, zq_t, zq_u, zq_v, zq_w, zq_x, zq_y, zq_z, zq_A, zq_B, zq_C, zq_D, zq_E, zq_F, zq_G, zq_H, zq_I, zq_J, zq_K, zq_L, ↓zq_M, ↓zq_N, ↓zq_O, ↓zq_P, ↓zq_Q, ↓zq_R, zq_S, zq_T, zq_U, zq_V, zq_W, zq_X, zq_Y, zq_Z, zq_0, zq_1, zq_2, zq_3, zq_4, zq_5, ↓zq_6, ↓zq_7, ↓zq_8, ↓zq_9, ↓zq_aa, zq_ab, zq_ac, zq_ad, zq_ae, zq_af, zq_ag, ↓zq_ah, ↓zq_ai, ↓zq_aj, zq_ak, ↓zq_al, ↓zq_am, e_b1, e_b2, x_o1, x_o2, p_704, w_H0, w_P1, ax_bench, t1, k1, bx_F0, n0, w0, w5, w6, c0, c3, c2]
end WT
end
section
section WT
variable {M M1 M2 : EM} {g : Int → Int} {d w r1 r2 : Int}
theorem wt_166 {k : Nat} (h : hd_all M) (hk : (k : Int) < r_G M 1198) (h6 : cu_nl (r_G M) (cu_in (r_G M) (k : Int)) ≤ 6) : ∃ Mb, E_C 166 [8, (k : Int)] M = some (tf (r_G M (28 * (k : Int))) (ax_S (r_G M) (k : Int) 0), Mb) ∧ ∀ id, id < 162 → Mb id = M id := by
  obtain ⟨Mb, k1, z0, fr⟩ := ax_158 (u := 0) h hk (by decide)
  have h40 := hd_40 h
  have b1 : M 11 k = r_G M (28 * (k : Int)) := (h.1.2.2 k hk).1
  have b1' : Mb 11 (k : Int).toNat = r_G M (28 * (k : Int)) := by
    rw [fr 11 (by decide), Int.toNat_natCast, b1]
  have j3 := h_150 (p := (k : Int)) (k := 3) (M := Mb) ⟨by omega, by omega⟩
  have j2 := h_150 (p := (k : Int)) (k := 2) (M := Mb) ⟨by omega, by omega⟩
  rw [b1'] at j3 j2
  refine ⟨Mb, ?_, fr⟩
  have s0 : E_C 166 [8, (k : Int)] M = e_tv E_C (E_V 166) e_t166_0 [8, (k : Int), 0] M := r_ent (u := 166) (as := [8, (k : Int)]) (M := M) (decide_eq_true c_this)
  rw [s0]
  unfold e_t166_0 tf
  have sb : 0 ≤ ax_S (r_G M) (k : Int) 0 ∧ ax_S (r_G M) (k : Int) 0 ≤ 600 := bx_s_bd h6
  clear fr b1 b1' z0 h
  generalize ax_S (r_G M) (k : Int) 0 = c at *
  generalize r_G M (28 * (k : Int)) = kd at *
  generalize (k : Int) = kk at *
  have w1 : e_w (1000 + c) = 1000 + c := a_w_id (by omega) (by omega)
  by_cases c3 : kd = 3
  · rw [if_pos (Or.inl c3)]
    rw [if_pos c3] at j3
    simp [zq_a, zq_b, zq_c, zq_d, zq_e, zq_f, zq_g, zq_h, zq_i, zq_j, zq_k, zq_l, zq_m, zq_n, zq_o, zq_p, zq_q, zq_r, zq_s, zq_t, zq_u, zq_v, zq_w, zq_x, zq_y, zq_z, zq_A, zq_B, zq_C, zq_D, zq_E, zq_F, zq_G, zq_H, zq_I, zq_J, zq_K, zq_L, ↓zq_M, ↓zq_N, ↓zq_O, ↓zq_P, ↓zq_Q, ↓zq_R, zq_S, zq_T, zq_U, zq_V, zq_W, zq_X, zq_Y, zq_Z, zq_0, zq_1, zq_2, zq_3, zq_4, zq_5, ↓zq_6, ↓zq_7, ↓zq_8, ↓zq_9, ↓zq_aa, zq_ab, zq_ac, zq_ad, zq_ae, zq_af, zq_ag, ↓zq_ah, ↓zq_ai, ↓zq_aj, zq_ak, ↓zq_al, ↓zq_am, e_b1, e_b2, x_o1, x_o2, k1, j3]
  · rw [if_neg c3] at j3
    by_cases cz : c = 0
    · rw [if_pos (Or.inr cz)]
      simp [zq_a, zq_b, zq_c, zq_d, zq_e, zq_f, zq_g, zq_h, zq_i, zq_j, zq_k, zq_l, zq_m, zq_n, zq_o, zq_p, zq_q, zq_r, zq_s, zq_t, zq_u, zq_v, zq_w, zq_x, zq_y, zq_z, zq_A, zq_B, zq_C, zq_D, zq_E, zq_F, zq_G, zq_H, zq_I, zq_J, zq_K, zq_L, ↓zq_M, ↓zq_N, ↓zq_O, ↓zq_P, ↓zq_Q, ↓zq_R, zq_S, zq_T, zq_U, zq_V, zq_W, zq_X, zq_Y, zq_Z, zq_0, zq_1, zq_2, zq_3, zq_4, zq_5, ↓zq_6, ↓zq_7, ↓zq_8, ↓zq_9, ↓zq_aa, zq_ab, zq_ac, zq_ad, zq_ae, zq_af, zq_ag, ↓zq_ah, ↓zq_ai, ↓zq_aj, zq_ak, ↓zq_al, ↓zq_am, e_b1, e_b2, x_o1, x_o2, k1, j3, cz]
    · rw [if_neg (fun e => e.elim c3 cz)]
      by_cases c2 : kd = 2
      · rw [if_pos c2] at j2
        rw [if_pos c2]
        simp [zq_a, zq_b, zq_c, zq_d, zq_e, zq_f, zq_g, zq_h, zq_i, zq_j, zq_k, zq_l, zq_m, zq_n, zq_o, zq_p, zq_q, zq_r, zq_s, zq_t, zq_u, zq_v, zq_w, zq_x, zq_y, zq_z, zq_A, zq_B, zq_C, zq_D, zq_E, zq_F, zq_G, zq_H, zq_I, zq_J, zq_K, zq_L, ↓zq_M, ↓zq_N, ↓zq_O, ↓zq_P, ↓zq_Q, ↓zq_R, zq_S, zq_T, zq_U, zq_V, zq_W, zq_X, zq_Y, zq_Z, zq_0, zq_1, zq_2, zq_3, zq_4, zq_5, ↓zq_6, ↓zq_7, ↓zq_8, ↓zq_9, ↓zq_aa, zq_ab, zq_ac, zq_ad, zq_ae, zq_af, zq_ag, ↓zq_ah, ↓zq_ai, ↓zq_aj, zq_ak, ↓zq_al, ↓zq_am, e_b1, e_b2, x_o1, x_o2, k1, j3, j2, cz, w1]
      · rw [if_neg c2] at j2
        rw [if_neg c2]
        simp [zq_a, zq_b, zq_c, zq_d, zq_e, zq_f, zq_g, zq_h, zq_i, zq_j, zq_k, zq_l, zq_m, zq_n, zq_o, zq_p, zq_q, zq_r, zq_s, zq_t, zq_u, zq_v, zq_w, zq_x, zq_y, zq_z, zq_A, zq_B, zq_C, zq_D, zq_E, zq_F, zq_G, zq_H, zq_I, zq_J, zq_K, zq_L, ↓zq_M, ↓zq_N, ↓zq_O, ↓zq_P, ↓zq_Q, ↓zq_R, zq_S, zq_T, zq_U, zq_V, zq_W, zq_X, zq_Y, zq_Z, zq_0, zq_1, zq_2, zq_3, zq_4, zq_5, ↓zq_6, ↓zq_7, ↓zq_8, ↓zq_9, ↓zq_aa, zq_ab, zq_ac, zq_ad, zq_ae, zq_af, zq_ag, ↓zq_ah, ↓zq_ai, ↓zq_aj, zq_ak, ↓zq_al, ↓zq_am, e_b1, e_b2, x_o1, x_o2, k1, j3, j2, cz]
end WT
end
section
/-! keep by the reference -/
section WT
variable {M M1 M2 : EM} {g : Int → Int} {d w r1 r2 : Int}
/-- the reference: a PART kept -/
theorem wt_196 {l : List Int} {M : EM} : E_V 258 196 l M = some (0, M) := by
  rw [E_V_eq]
  show e_tv E_C (E_V 258) e_t258_196 l M = _
  unfold e_t258_196
  simp [zq_a, zq_b, zq_c, zq_d, zq_e, zq_f, zq_g, zq_h, zq_i, zq_j, zq_k, zq_l, zq_m, zq_n, zq_o, zq_p, zq_q, zq_r, zq_s, zq_t, zq_u, zq_v, zq_w, zq_x, zq_y, zq_z, zq_A, zq_B, zq_C, zq_D, zq_E, zq_F, zq_G, zq_H, zq_I, zq_J, zq_K, zq_L, ↓zq_M, ↓zq_N, ↓zq_O, ↓zq_P, ↓zq_Q, ↓zq_R, zq_S, zq_T, zq_U, zq_V, zq_W, zq_X, zq_Y, zq_Z, zq_0, zq_1, zq_2, zq_3, zq_4, zq_5, ↓zq_6, ↓zq_7, ↓zq_8, ↓zq_9, ↓zq_aa, zq_ab, zq_ac, zq_ad, zq_ae, zq_af, zq_ag, ↓zq_ah, ↓zq_ai, ↓zq_aj, zq_ak, ↓zq_al, ↓zq_am, e_b1, e_b2, x_o1, x_o2]
theorem wt_258 {m k : Nat} (hG : r_G M1 = g) (J1 : r_J M1) (K1 : rx_K M1) (hcs : hd_cs g) (hcv : hd_cvs g) (hcap : ax_nc g (k : Int) ≤ 40 ∧ ax_nd g (k : Int) ≤ 40) (h6 : cu_nl g (cu_in g (k : Int)) ≤ 6) (hm : m < 8) (hk : (k : Int) < g 1198) (hB5 : g (28 * (k : Int)) = 3 → 0 ≤ g (28 * (k : Int) + 5) ∧ g (28 * (k : Int) + 5) ≤ 100) : ∃ M2, E_C 258 [192, (m : Int), 1, (k : Int)] M1 = some (0, M2) ∧ M2 195 m = 1 ∧ M2 199 m = g (28 * (k : Int)) ∧ M2 201 m = ax_S g (k : Int) 0 ∧ M2 200 m = wt g (k : Int) ∧ ∀ id j, id ≠ 192 → id ≠ 202 → id ≠ 203 → ¬ (j = m ∧ (id = 195 ∨ id = 199 ∨ id = 200 ∨ id = 201)) → M2 id j = M1 id j := by
  have hW := (r_J_E J1).2.1
  have ip := r_ip1 (M := M1) hW (show 0 ≤ (k : Int) ∧ (k : Int) < r_G M1 1198 by rw [hG]; exact ⟨by omega, hk⟩)
  have is : E_C 173 [(m : Int)] M1 = some (1, M1) := by rw [h_is, if_pos ⟨by omega, by omega⟩]
  have iw : E_C 168 [1, 0, 1] M1 = some (1, M1) := r_in1 (by decide)
  have h40 : 0 ≤ (k : Int) ∧ (k : Int) < 40 := ⟨by omega, by rw [hG] at hW; have := hW.2.1; omega⟩
  have m7 : (0 : Int) ≤ (m : Int) ∧ (m : Int) ≤ 7 := ⟨by omega, by omega⟩
  have st195 : ∀ v M, e_st 100 [195, (m : Int), v] M = some (e_up M 195 m v) := fun v M => r_st (a := 195) (n := 8) (by decide) (by decide +kernel) (by decide +kernel) m7.1 (by omega)
  have st199 : ∀ v M, e_st 100 [199, (m : Int), v] M = some (e_up M 199 m v) := fun v M => r_st (a := 199) (n := 8) (by decide) (by decide +kernel) (by decide +kernel) m7.1 (by omega)
  have st200 : ∀ v M, e_st 100 [200, (m : Int), v] M = some (e_up M 200 m v) := fun v M => r_st (a := 200) (n := 8) (by decide) (by decide +kernel) (by decide +kernel) m7.1 (by omega)
  have st201 : ∀ v M, e_st 100 [201, (m : Int), v] M = some (e_up M 201 m v) := fun v M => r_st (a := 201) (n := 8) (by decide) (by decide +kernel) (by decide +kernel) m7.1 (by omega)
  obtain ⟨A, hA⟩ : ∃ A, e_up M1 195 m 1 = A := ⟨_, rfl⟩
  have fA : ∀ id j, ¬ (id = 195 ∧ j = m) → A id j = M1 id j := fun id j h => by rw [← hA, c_up_n h]
  have GA : r_G A = g := (funext fun i => fA _ _ (by omega)).trans hG
  rw [hG] at hW
  obtain ⟨B, kB, gB⟩ := ga_all (M := A) (b := g 1198) (p := (k : Int)) hW.2.1 (hW.2.2.1 (k : Int) (by omega) hk) (show bx_oc _ _ _ ≤ 48 by have := hcap.1; unfold ax_nc at this; omega) (show ga_od _ _ _ ≤ 48 by have := hcap.2; unfold ax_nd at this; omega) GA
  have n13 : B 192 13 = (ax_nc g (k : Int) : Int) := gB.1
  have fB : ∀ id j, id ≠ 202 → id ≠ 203 → ¬ (id = 192 ∧ (j = 13 ∨ j = 14)) → B id j = A id j := gB.2.2.2.2
  have GB : r_G B = g := (funext fun i => fB _ _ (by decide) (by decide) (by omega)).trans GA
  obtain ⟨C, hC⟩ : ∃ C, e_up B 199 m (g (28 * (k : Int))) = C := ⟨_, rfl⟩
  have fC : ∀ id j, ¬ (id = 199 ∧ j = m) → C id j = B id j := fun id j h => by rw [← hC, c_up_n h]
  have GC : r_G C = g := (funext fun i => fC _ _ (by omega)).trans GB
  have KC : ∀ j, j ≠ 13 → j ≠ 14 → C 192 j = M1 192 j := fun j a b => (fC _ _ (by omega)).trans ((fB _ _ (by decide) (by decide) (by omega)).trans (fA _ _ (by omega)))
  have hmd := rx_MD_md (rx_MD0 (M := C) GC ⟨(KC _ (by decide) (by decide)).trans K1.1, (KC _ (by decide) (by decide)).trans K1.2.1, (KC _ (by decide) (by decide)).trans K1.2.2⟩ ((KC _ (by decide) (by decide)).trans J1.2.2.2.2) hcs)
  have kc : E_C 202 [192, (k : Int), 0] C = some (ax_S g (k : Int) 0, C) := by
    have k1 := rx_currentOf (b := g 1198) (p := (k : Int)) (u := 0) hmd (by rw [GC]; exact hcv) hW.2.1 (by rw [GC]; exact Int.le_refl _) (by rw [GC]; exact hW.2.2.1 (k : Int) (by omega) hk)
    rw [GC] at k1
    exact k1
  obtain ⟨D, hD⟩ : ∃ D, e_up C 201 m (ax_S g (k : Int) 0) = D := ⟨_, rfl⟩
  have fD : ∀ id j, ¬ (id = 201 ∧ j = m) → D id j = C id j := fun id j h => by rw [← hD, c_up_n h]
  have GD : r_G D = g := (funext fun i => fD _ _ (by omega)).trans GC
  have kB0 : E_C 170 [192, (k : Int)] B = some (g (28 * (k : Int)), B) := by rw [← GB]; exact r_kind h40
  have kD0 : E_C 170 [192, (k : Int)] D = some (g (28 * (k : Int)), D) := by rw [← GD]; exact r_kind h40
  have kDm : E_C 171 [192, (k : Int)] D = some (g (28 * (k : Int) + 2), D) := by rw [← GD]; exact r_many h40
  have nD : D 192 13 = (ax_nc g (k : Int) : Int) := (fD _ _ (by omega)).trans ((fC _ _ (by omega)).trans n13)
  refine ⟨e_up D 200 m (wt g (k : Int)), ?_, ?_, ?_, ?_, c_up_s, fun id j i1 i2 i3 i4 => ?_⟩
  · have pt := hW.2.2.1 (k : Int) (by omega) hk
    have cap : 0 ≤ (ax_nc g (k : Int) : Int) ∧ (ax_nc g (k : Int) : Int) ≤ 40 := ⟨by omega, by have := hcap.1; omega⟩
    have h40 := h40
    unfold wt
    rcases pt with x | x | x | x
    · have k0 := x.2.2.1
      have cv := hcv (k : Int) (by omega) hk k0
      obtain ⟨n, hn⟩ : ∃ n : Nat, g (28 * (k : Int) + 2) = n := by
        obtain ⟨n, hh⟩ := cv
        exact ⟨n, hh.2.2.1⟩
      obtain ⟨n2, n6, bb, -⟩ := hd_cv_bd cv hn
      have ko : E_C 172 [192, (k : Int), g (28 * (k : Int) + 2) - 1] D = some (g (28 * (k : Int) + 3 + (g (28 * (k : Int) + 2) - 1)), D) := by rw [← GD]; exact r_of h40 ⟨by rw [GD]; omega, by rw [GD]; omega⟩
      have bp := (bb (n - 1) (by omega)).1
      rw [show ((n - 1 : Nat) : Int) = g (28 * (k : Int) + 2) - 1 by omega] at bp
      have nb : 2 ≤ g (28 * (k : Int) + 2) ∧ g (28 * (k : Int) + 2) ≤ 6 := ⟨by omega, by omega⟩
      rw [if_pos k0]
      rw [k0] at kB0 kD0 hC
      clear hn n2 n6 x cv hcv hcs hmd gB fA fB fC fD bb hW J1 KC hB5 hcap h6 hk hm m7 GA GB GC GD K1 hG
      generalize g (28 * (k : Int) + 3 + (g (28 * (k : Int) + 2) - 1)) = z at *
      generalize g (28 * (k : Int) + 2) = nn at *
      generalize ax_S g (k : Int) 0 = cur at *
      have j : E_V 258 104 [192, (m : Int), 1, (k : Int)] D = some (0, e_up D 200 m (10 + (k : Int) + z)) := by
        have w1 : e_w (10 + (k : Int)) = 10 + (k : Int) := a_w_id (by omega) (by omega)
        have w2 : e_w (nn - 1) = nn - 1 := a_w_id (by omega) (by omega)
        have w3 : e_w (10 + (k : Int) + z) = 10 + (k : Int) + z := a_w_id (by omega) (by omega)
        rw [E_V_eq]
        show e_tv E_C (E_V 258) e_t258_104 [192, (m : Int), 1, (k : Int)] D = _
        unfold e_t258_104
        simp [zq_a, zq_b, zq_c, zq_d, zq_e, zq_f, zq_g, zq_h, zq_i, zq_j, zq_k, zq_l, zq_m, zq_n, zq_o, zq_p, zq_q, zq_r, zq_s, zq_t, zq_u, zq_v, zq_w, zq_x, zq_y, zq_z, zq_A, zq_B, zq_C, zq_D, zq_E, zq_F, zq_G, zq_H, zq_I, zq_J, zq_K, zq_L, ↓zq_M, ↓zq_N, ↓zq_O, ↓zq_P, ↓zq_Q, ↓zq_R, zq_S, zq_T, zq_U, zq_V, zq_W, zq_X, zq_Y, zq_Z, zq_0, zq_1, zq_2, zq_3, zq_4, zq_5, ↓zq_6, ↓zq_7, ↓zq_8, ↓zq_9, ↓zq_aa, zq_ab, zq_ac, zq_ad, zq_ae, zq_af, zq_ag, ↓zq_ah, ↓zq_ai, ↓zq_aj, zq_ak, ↓zq_al, ↓zq_am, e_b1, e_b2, x_o1, x_o2, r_O7, kDm, ko, w1, w2, w3, st200, wt_196]
      generalize (k : Int) = kk at *
      generalize hmm : (m : Int) = mm at *
      rw [r_ent (show e_rok 258 [192, mm, 1, kk] = true from decide_eq_true r_ref)]
      show e_tv E_C (E_V 258) e_t258_0 [192, mm, 1, kk] M1 = _
      unfold e_t258_0
      simp [zq_a, zq_b, zq_c, zq_d, zq_e, zq_f, zq_g, zq_h, zq_i, zq_j, zq_k, zq_l, zq_m, zq_n, zq_o, zq_p, zq_q, zq_r, zq_s, zq_t, zq_u, zq_v, zq_w, zq_x, zq_y, zq_z, zq_A, zq_B, zq_C, zq_D, zq_E, zq_F, zq_G, zq_H, zq_I, zq_J, zq_K, zq_L, ↓zq_M, ↓zq_N, ↓zq_O, ↓zq_P, ↓zq_Q, ↓zq_R, zq_S, zq_T, zq_U, zq_V, zq_W, zq_X, zq_Y, zq_Z, zq_0, zq_1, zq_2, zq_3, zq_4, zq_5, ↓zq_6, ↓zq_7, ↓zq_8, ↓zq_9, ↓zq_aa, zq_ab, zq_ac, zq_ad, zq_ae, zq_af, zq_ag, ↓zq_ah, ↓zq_ai, ↓zq_aj, zq_ak, ↓zq_al, ↓zq_am, e_b1, e_b2, x_o1, x_o2, e_len, e_nth, r_O2, r_O6, r_O8, is, iw, ip, st195, hA, kB, kB0, st199, hC, kc, st201, hD, kD0, j]
    · have k1 := x.2.2.1
      rw [if_neg (by omega), if_neg (by omega), if_neg (by omega)]
      rw [k1] at kB0 kD0 hC
      clear x hcv hcs hmd gB fA fB fC fD hW J1 KC hB5 hcap h6 hk hm m7 GA GB GC GD K1 hG
      generalize (ax_nc g (k : Int) : Int) = nc at *
      generalize ax_S g (k : Int) 0 = cur at *
      have j : E_V 258 130 [192, (m : Int), 1, (k : Int)] D = some (0, e_up D 200 m (10 + (k : Int) + 10 * nc)) := by
        have w1 : e_w (10 + (k : Int)) = 10 + (k : Int) := a_w_id (by omega) (by omega)
        have w5 : e_w (10 * nc) = 10 * nc := a_w_id (by omega) (by omega)
        have w6 : e_w (10 + (k : Int) + 10 * nc) = 10 + (k : Int) + 10 * nc := a_w_id (by omega) (by omega)
        rw [E_V_eq]
        show e_tv E_C (E_V 258) e_t258_130 [192, (m : Int), 1, (k : Int)] D = _
        unfold e_t258_130
        simp [zq_a, zq_b, zq_c, zq_d, zq_e, zq_f, zq_g, zq_h, zq_i, zq_j, zq_k, zq_l, zq_m, zq_n, zq_o, zq_p, zq_q, zq_r, zq_s, zq_t, zq_u, zq_v, zq_w, zq_x, zq_y, zq_z, zq_A, zq_B, zq_C, zq_D, zq_E, zq_F, zq_G, zq_H, zq_I, zq_J, zq_K, zq_L, ↓zq_M, ↓zq_N, ↓zq_O, ↓zq_P, ↓zq_Q, ↓zq_R, zq_S, zq_T, zq_U, zq_V, zq_W, zq_X, zq_Y, zq_Z, zq_0, zq_1, zq_2, zq_3, zq_4, zq_5, ↓zq_6, ↓zq_7, ↓zq_8, ↓zq_9, ↓zq_aa, zq_ab, zq_ac, zq_ad, zq_ae, zq_af, zq_ag, ↓zq_ah, ↓zq_ai, ↓zq_aj, zq_ak, ↓zq_al, ↓zq_am, e_b1, e_b2, x_o1, x_o2, r_O7, r_F13, nD, w1, w5, w6, st200, wt_196]
      generalize (k : Int) = kk at *
      generalize hmm : (m : Int) = mm at *
      rw [r_ent (show e_rok 258 [192, mm, 1, kk] = true from decide_eq_true r_ref)]
      show e_tv E_C (E_V 258) e_t258_0 [192, mm, 1, kk] M1 = _
      unfold e_t258_0
      simp [zq_a, zq_b, zq_c, zq_d, zq_e, zq_f, zq_g, zq_h, zq_i, zq_j, zq_k, zq_l, zq_m, zq_n, zq_o, zq_p, zq_q, zq_r, zq_s, zq_t, zq_u, zq_v, zq_w, zq_x, zq_y, zq_z, zq_A, zq_B, zq_C, zq_D, zq_E, zq_F, zq_G, zq_H, zq_I, zq_J, zq_K, zq_L, ↓zq_M, ↓zq_N, ↓zq_O, ↓zq_P, ↓zq_Q, ↓zq_R, zq_S, zq_T, zq_U, zq_V, zq_W, zq_X, zq_Y, zq_Z, zq_0, zq_1, zq_2, zq_3, zq_4, zq_5, ↓zq_6, ↓zq_7, ↓zq_8, ↓zq_9, ↓zq_aa, zq_ab, zq_ac, zq_ad, zq_ae, zq_af, zq_ag, ↓zq_ah, ↓zq_ai, ↓zq_aj, zq_ak, ↓zq_al, ↓zq_am, e_b1, e_b2, x_o1, x_o2, e_len, e_nth, r_O2, r_O6, r_O8, is, iw, ip, st195, hA, kB, kB0, st199, hC, kc, st201, hD, kD0, j]
    · have k2 := x.2.2.1
      rw [if_neg (by omega), if_neg (by omega), if_pos k2]
      rw [k2] at kB0 kD0 hC
      clear x hcv hcs hmd gB fA fB fC fD hW J1 KC hB5 hcap h6 hk hm m7 GA GB GC GD K1 hG
      generalize (ax_nc g (k : Int) : Int) = nc at *
      generalize ax_S g (k : Int) 0 = cur at *
      have j : E_V 258 151 [192, (m : Int), 1, (k : Int)] D = some (0, e_up D 200 m (2 * (10 + (k : Int) + 10 * nc))) := by
        have w1 : e_w (10 + (k : Int)) = 10 + (k : Int) := a_w_id (by omega) (by omega)
        have w5 : e_w (10 * nc) = 10 * nc := a_w_id (by omega) (by omega)
        have w6 : e_w (10 + (k : Int) + 10 * nc) = 10 + (k : Int) + 10 * nc := a_w_id (by omega) (by omega)
        have w7 : e_w (2 * (10 + (k : Int) + 10 * nc)) = 2 * (10 + (k : Int) + 10 * nc) := a_w_id (by omega) (by omega)
        rw [E_V_eq]
        show e_tv E_C (E_V 258) e_t258_151 [192, (m : Int), 1, (k : Int)] D = _
        unfold e_t258_151
        simp [zq_a, zq_b, zq_c, zq_d, zq_e, zq_f, zq_g, zq_h, zq_i, zq_j, zq_k, zq_l, zq_m, zq_n, zq_o, zq_p, zq_q, zq_r, zq_s, zq_t, zq_u, zq_v, zq_w, zq_x, zq_y, zq_z, zq_A, zq_B, zq_C, zq_D, zq_E, zq_F, zq_G, zq_H, zq_I, zq_J, zq_K, zq_L, ↓zq_M, ↓zq_N, ↓zq_O, ↓zq_P, ↓zq_Q, ↓zq_R, zq_S, zq_T, zq_U, zq_V, zq_W, zq_X, zq_Y, zq_Z, zq_0, zq_1, zq_2, zq_3, zq_4, zq_5, ↓zq_6, ↓zq_7, ↓zq_8, ↓zq_9, ↓zq_aa, zq_ab, zq_ac, zq_ad, zq_ae, zq_af, zq_ag, ↓zq_ah, ↓zq_ai, ↓zq_aj, zq_ak, ↓zq_al, ↓zq_am, e_b1, e_b2, x_o1, x_o2, r_O7, r_F13, nD, w1, w5, w6, w7, st200, wt_196]
      generalize (k : Int) = kk at *
      generalize hmm : (m : Int) = mm at *
      rw [r_ent (show e_rok 258 [192, mm, 1, kk] = true from decide_eq_true r_ref)]
      show e_tv E_C (E_V 258) e_t258_0 [192, mm, 1, kk] M1 = _
      unfold e_t258_0
      simp [zq_a, zq_b, zq_c, zq_d, zq_e, zq_f, zq_g, zq_h, zq_i, zq_j, zq_k, zq_l, zq_m, zq_n, zq_o, zq_p, zq_q, zq_r, zq_s, zq_t, zq_u, zq_v, zq_w, zq_x, zq_y, zq_z, zq_A, zq_B, zq_C, zq_D, zq_E, zq_F, zq_G, zq_H, zq_I, zq_J, zq_K, zq_L, ↓zq_M, ↓zq_N, ↓zq_O, ↓zq_P, ↓zq_Q, ↓zq_R, zq_S, zq_T, zq_U, zq_V, zq_W, zq_X, zq_Y, zq_Z, zq_0, zq_1, zq_2, zq_3, zq_4, zq_5, ↓zq_6, ↓zq_7, ↓zq_8, ↓zq_9, ↓zq_aa, zq_ab, zq_ac, zq_ad, zq_ae, zq_af, zq_ag, ↓zq_ah, ↓zq_ai, ↓zq_aj, zq_ak, ↓zq_al, ↓zq_am, e_b1, e_b2, x_o1, x_o2, e_len, e_nth, r_O2, r_O6, r_O8, is, iw, ip, st195, hA, kB, kB0, st199, hC, kc, st201, hD, kD0, j]
    · have k3 := x.2.2.1
      have b5 := hB5 k3
      have l5 : e_op 60 [193, 28 * (k : Int) + 5] D = some (g (28 * (k : Int) + 5)) := (r_rd (by omega) (by omega)).trans (by rw [GD])
      rw [if_neg (by omega), if_pos k3]
      rw [k3] at kB0 kD0 hC
      clear x hcv hcs hmd gB fA fB fC fD hW J1 KC hB5 hcap h6 hk hm m7 GA GB GC GD K1 hG
      generalize g (28 * (k : Int) + 5) = z at *
      generalize ax_S g (k : Int) 0 = cur at *
      have j : E_V 258 174 [192, (m : Int), 1, (k : Int)] D = some (0, e_up D 200 m (10 + (k : Int) + z)) := by
        have w1 : e_w (10 + (k : Int)) = 10 + (k : Int) := a_w_id (by omega) (by omega)
        have w2 : e_w (28 * (k : Int)) = 28 * (k : Int) := a_w_id (by omega) (by omega)
        have w3 : e_w (28 * (k : Int) + 5) = 28 * (k : Int) + 5 := a_w_id (by omega) (by omega)
        have w4 : e_w (10 + (k : Int) + z) = 10 + (k : Int) + z := a_w_id (by omega) (by omega)
        rw [E_V_eq]
        show e_tv E_C (E_V 258) e_t258_174 [192, (m : Int), 1, (k : Int)] D = _
        unfold e_t258_174
        simp [zq_a, zq_b, zq_c, zq_d, zq_e, zq_f, zq_g, zq_h, zq_i, zq_j, zq_k, zq_l, zq_m, zq_n, zq_o, zq_p, zq_q, zq_r, zq_s, zq_t, zq_u, zq_v, zq_w, zq_x, zq_y, zq_z, zq_A, zq_B, zq_C, zq_D, zq_E, zq_F, zq_G, zq_H, zq_I, zq_J, zq_K, zq_L, ↓zq_M, ↓zq_N, ↓zq_O, ↓zq_P, ↓zq_Q, ↓zq_R, zq_S, zq_T, zq_U, zq_V, zq_W, zq_X, zq_Y, zq_Z, zq_0, zq_1, zq_2, zq_3, zq_4, zq_5, ↓zq_6, ↓zq_7, ↓zq_8, ↓zq_9, ↓zq_aa, zq_ab, zq_ac, zq_ad, zq_ae, zq_af, zq_ag, ↓zq_ah, ↓zq_ai, ↓zq_aj, zq_ak, ↓zq_al, ↓zq_am, e_b1, e_b2, x_o1, x_o2, r_O0, r_O7, l5, w1, w2, w3, w4, st200, wt_196]
      generalize (k : Int) = kk at *
      generalize hmm : (m : Int) = mm at *
      rw [r_ent (show e_rok 258 [192, mm, 1, kk] = true from decide_eq_true r_ref)]
      show e_tv E_C (E_V 258) e_t258_0 [192, mm, 1, kk] M1 = _
      unfold e_t258_0
      simp [zq_a, zq_b, zq_c, zq_d, zq_e, zq_f, zq_g, zq_h, zq_i, zq_j, zq_k, zq_l, zq_m, zq_n, zq_o, zq_p, zq_q, zq_r, zq_s, zq_t, zq_u, zq_v, zq_w, zq_x, zq_y, zq_z, zq_A, zq_B, zq_C, zq_D, zq_E, zq_F, zq_G, zq_H, zq_I, zq_J, zq_K, zq_L, ↓zq_M, ↓zq_N, ↓zq_O, ↓zq_P, ↓zq_Q, ↓zq_R, zq_S, zq_T, zq_U, zq_V, zq_W, zq_X, zq_Y, zq_Z, zq_0, zq_1, zq_2, zq_3, zq_4, zq_5, ↓zq_6, ↓zq_7, ↓zq_8, ↓zq_9, ↓zq_aa, zq_ab, zq_ac, zq_ad, zq_ae, zq_af, zq_ag, ↓zq_ah, ↓zq_ai, ↓zq_aj, zq_ak, ↓zq_al, ↓zq_am, e_b1, e_b2, x_o1, x_o2, e_len, e_nth, r_O2, r_O6, r_O8, is, iw, ip, st195, hA, kB, kB0, st199, hC, kc, st201, hD, kD0, j]
  · rw [c_up_n (by omega), fD _ _ (by omega), fC _ _ (by omega), fB _ _ (by decide) (by decide) (by omega), ← hA, c_up_s]
  · rw [c_up_n (by omega), fD _ _ (by omega), ← hC, c_up_s]
  · rw [c_up_n (by omega), ← hD, c_up_s]
  · rw [c_up_n (by omega), fD _ _ (by omega), fC _ _ (by omega), fB _ _ i2 i3 (by omega), fA _ _ (by omega)]
end WT
end
