/-! settings of CELLS changed on the bench, CAUSES off or an HOUR asked in the reference: BEST POWER by both -/
def hd_SHs (g : Int → Int) (S : Int → Nat → Int) (q : Int) : Int := if g (28 * q + 19) = 0 then (S q 0 * (100 - S q 1) * (100 - S q 2)).tdiv 10000 else 0
def st_ok (g : Int → Int) (S : Int → Nat → Int) : Prop := ∀ q : Nat, (q : Int) < g 1198 → g (28 * (q : Int)) = 0 → ∀ a, a < 4 → 0 ≤ S q a ∧ S q a ≤ 100
def ax_s (g : Int → Int) (S : Int → Nat → Int) (p u : Int) : Int := bx_s g (hd_SHs g S) (fun q => S q 3) (hd_DI g) (cu_ln g (cu_in g p)) (cu_nl g (cu_in g p)) u
def ax_b0 (g : Int → Int) (S : Int → Nat → Int) (p : Int) : Nat := cu_b (fun u => ax_s g S p (u : Int)) 500
def ax_PW (g : Int → Int) (S : Int → Nat → Int) (p : Int) : Int := (ax_b0 g S p : Int) * ax_s g S p (ax_b0 g S p : Int)
theorem ax_PW_bd {g : Int → Int} {S : Int → Nat → Int} {p : Int} (h : cu_nl g (cu_in g p) ≤ 6) : 0 ≤ ax_PW g S p ∧ ax_PW g S p ≤ 1000000 := by
  have b : ax_b0 g S p ≤ 500 := cu_b_le _
  have s : 0 ≤ ax_s g S p (ax_b0 g S p : Int) ∧ ax_s g S p (ax_b0 g S p : Int) ≤ 600 := bx_s_bd h
  exact (bx_pw (u := (ax_b0 g S p : Int)) (z := ax_s g S p (ax_b0 g S p : Int)) ⟨by omega, by omega⟩ ⟨s.1, by omega⟩).2
theorem hd_bds {g : Int → Int} {S : Int → Nat → Int} (h : st_ok g S) : bx_bd g (hd_SHs g S) (fun q => S q 3) := by
  intro q hq hk
  refine ⟨?_, h q hq hk 3 (by decide)⟩
  unfold hd_SHs
  by_cases z : g (28 * (q : Int) + 19) = 0
  · rw [if_pos z]
    exact (bx_shv (h q hq hk 0 (by decide)) (h q hq hk 1 (by decide)) (h q hq hk 2 (by decide))).2
  · rw [if_neg z]
    decide
/-- a CELL of the bench, as it was told -/
def hd_rw (g : Int → Int) (N : EM) (j q : Nat) : Prop := N 174 j = q ∧ (q : Int) < g 1198 ∧ g (28 * (q : Int)) = 0 ∧ (∀ a : Nat, a < 4 → N 175 (4 * j + a) = g (28 * (q : Int) + 15 + (a : Int))) ∧ N 176 j = g (28 * (q : Int) + 19)
theorem hd_raw {g : Int → Int} {M N : EM} {X : Nat → Int} {L : Nat} (h40 : g 1198 ≤ 40) (hC : h_C M 0 g) (ok : ∀ l, l < L → bx_ok M g (X l)) (hS : bx_SP g M N X L) : ∀ j, j < bx_oc g X L → ∃ q, hd_rw g N j q := by
  intro j hj
  obtain ⟨l, k, h1, h2, h3, -⟩ := bx_fc_at L j hj
  have c := hS.2.2.2.2.1 l k h1 h2
  rw [← h3] at c
  have b := bx_ok_ce h40 (ok l h1) h2
  obtain ⟨z, z1, z2, z3⟩ := ok l h1
  obtain ⟨q, hq⟩ : ∃ q : Nat, bx_ce g (X l) k = q := ⟨(bx_ce g (X l) k).toNat, by omega⟩
  rw [hq, Int.toNat_natCast] at c
  have qq : (q : Int) < g 1198 ∧ g (28 * (q : Int)) = 0 := by
    rcases z3 with z3 | ⟨z3, n, gr, ⟨-, b1, -, b3, -, -, b6⟩⟩
    · have e : bx_ce g (X l) k = X l := if_pos (by rw [z1]; exact z3)
      rw [← hq, e, z1]
      exact ⟨z2, z3⟩
    · have kn : ¬ g (28 * X l) = 0 := by rw [z1]; omega
      have en : bx_nc g (X l) = n := by
        unfold bx_nc
        rw [if_neg kn, z1, b1, Int.toNat_natCast]
      obtain ⟨⟨m1, m2, m3, -, -⟩, c2, -⟩ := b6 k (by omega)
      have e : bx_ce g (X l) k = g (28 * X l + 3 + (k : Int)) := if_neg kn
      rw [← hq, e, z1]
      exact ⟨by omega, c2⟩
  obtain ⟨d1, d2, d3, d4⟩ := c
  obtain ⟨c1, c2, -⟩ := hC q qq.1 qq.2
  exact ⟨q, d1, qq.1, qq.2, fun a ha => (d4 a ha).trans (c1 a ha).1, d3.trans c2.1⟩
theorem hd_kn2 {g : Int → Int} {S : Int → Nat → Int} {N N' : EM} {j q : Nat} (hS : st_ok g S) (h : hd_rw g N j q) (h1 : ∀ a, a < 4 → N' 175 (4 * j + a) = S q a) (h2 : ∀ id k, id ≠ 175 → N' id k = N id k) : bx_kn g (hd_SHs g S) (fun q => S q 3) N' j := by
  obtain ⟨d1, d2, d3, d4, d5⟩ := h
  have b := hS q d2 d3
  have a0 := h1 0 (by decide)
  rw [Nat.add_zero] at a0
  refine ⟨q, (h2 _ _ (by decide)).trans d1, d2, d3, fun a ha => by rw [h1 a ha]; exact b a ha, ?_, h1 3 (by decide)⟩
  unfold bx_sh hd_SHs
  rw [(h2 _ _ (by decide)).trans d5, a0, h1 1 (by decide), h1 2 (by decide)]
/-- the class: spread, settings changed, BEST -/
theorem ax_sp {M : EM} {p : Nat} (h : hd_all M) (hp : (p : Int) < r_G M 1198) : ∃ N, E_C 1 [170, (p : Int)] M = some (0, N) ∧ N 170 0 = (ax_nc (r_G M) (p : Int) : Int) ∧ ax_nc (r_G M) (p : Int) ≤ 40 ∧ (∀ j, j < ax_nc (r_G M) (p : Int) → ∃ q, hd_rw (r_G M) N j q) ∧ (∀ id k, ¬ (170 ≤ id ∧ id ≤ 176) → N id k = M id k) ∧ N 171 0 = 0 ∧ ∀ S N', st_ok (r_G M) S → (∀ j q, j < ax_nc (r_G M) (p : Int) → hd_rw (r_G M) N j q → ∀ a, a < 4 → N' 175 (4 * j + a) = S q a) → (∀ id k, id ≠ 175 → N' id k = N id k) → ∃ M', E_C 21 [170] N' = some (0, M') ∧ M' 170 1 = ax_PW (r_G M) S (p : Int) ∧ M' 171 0 = 0 ∧ ∀ id k, ¬ (170 ≤ id ∧ id ≤ 181) → M' id k = M id k := by
  obtain ⟨N, k, hX, hS, hN, h7, e, h0⟩ := ax_1 h hp
  obtain ⟨hB, hC, hD, h171⟩ := h
  have h40 := hB.2.1.2
  have raw := hd_raw h40 hC hX.2.1 hS
  have fr := hS.2.2.2.2.2.2.2.1
  refine ⟨N, k, hN.2.1, hX.2.2.1, raw, fr, h0, fun S N' hs h1 h2 => ?_⟩
  obtain ⟨n1, n2, n3, n4, n5, n6⟩ := hN
  have hN' : bx_ND (r_G M) (hd_SHs (r_G M) S) (fun q => S q 3) (hd_DI (r_G M)) (cu_ln (r_G M) (cu_in (r_G M) (p : Int))) (cu_nl (r_G M) (cu_in (r_G M) (p : Int))) N' := by
    refine ⟨fun j hj => ?_, (h2 _ _ (by decide)).trans n2, (h2 _ _ (by decide)).trans n3, fun l hl => (h2 _ _ (by decide)).trans (n4 l hl), fun l k hl hk => ?_, fun l y hl hy => (h2 _ _ (by decide)).trans (n6 l y hl hy)⟩
    · obtain ⟨q, hq⟩ := raw j hj
      exact hd_kn2 hs hq (h1 j q hj hq) h2
    · rw [h2 _ _ (by decide), h2 _ _ (by decide)]
      exact n5 l k hl hk
  obtain ⟨M', m, m6, ms, m2, m1, mf⟩ := bx_21 h40 hD (fun id hid => funext fun k => (h2 _ _ (by omega)).trans (congrFun (e id hid) k)) (hd_bds hs) hX hN'
  exact ⟨M', m, m1, (mf _ _ (by decide) (by omega)).trans ((h2 _ _ (by decide)).trans h0), fun id k hid => (mf _ _ (by omega) (by omega)).trans ((h2 _ _ (by omega)).trans (fr _ _ (by omega)))⟩
/-- nothing that is told has changed -/
theorem hd_all_fr {M M' : EM} (h : hd_all M) (f : ∀ id k, ¬ (170 ≤ id ∧ id ≤ 191) → M' id k = M id k) (h0 : M' 171 0 = 0) : hd_all M' := by
  obtain ⟨hB, hC, hD, -⟩ := h
  have eG : r_G M' = r_G M := funext fun i => f _ _ (by decide)
  have e : ∀ id, id < 162 → M' id = M id := fun id hid => funext fun k => f _ _ (by omega)
  unfold hd_all
  rw [eG]
  refine ⟨?_, ?_, fun q hq => ?_, h0⟩
  · unfold h_B
    rw [e (10 + 0) (by decide), e (11 + 0) (by decide), e (13 + 0) (by decide)]
    exact hB
  · intro q hq
    unfold h_Cq
    rw [e (21 + 0) (by decide), e (22 + 0) (by decide), e (23 + 0) (by decide), e (24 + 0) (by decide)]
    exact hC q hq
  · have q40 : q < 40 := by have := hB.2.1.2; omega
    refine hd_q_cg (hD q hq) ⟨rfl, rfl, fun _ _ _ _ _ => rfl⟩ (fun _ _ _ => ⟨rfl, fun _ => rfl⟩) ⟨?_, ?_, fun k _ => ⟨?_, ?_, ?_⟩, fun i _ => ⟨?_, ?_⟩, fun k _ => ?_⟩
    · rw [e (12 + 0) (by decide)]
    · rw [e (14 + 0) (by decide)]
    · rw [e (15 + 0) (by decide)]
    · rw [e (16 + 0) (by decide)]
    · rw [e (17 + 0) (by decide)]
    · rw [e (19 + 0) (by decide)]
    · rw [e (20 + 0) (by decide)]
    · rw [e (37 + 0 + q) (by omega)]
/-- the reference: BEST POWER, however it is asked -/
theorem rx_209 {M : EM} {g : Int → Int} {S : Int → Nat → Int} {p : Int} (hG : r_G M = g) (hW : r_W g) (hm : rx_MD M (hd_SHs g S) (fun q => S q 3) (hd_DI g)) (hcv : hd_cvs g) (hp : 0 ≤ p ∧ p < g 1198) (h6 : cu_nl g (cu_in g p) ≤ 6) : ∃ M', E_C 209 [192, p] M = some (ax_PW g S p, M') ∧ rx_sm M M' := by
  obtain ⟨M', k, sm, hs⟩ := rx_gives hG hm hcv (b := g 1198) hW.2.1 (Int.le_refl _) (hW.2.2.1 p hp.1 hp.2)
  have hs : ∀ u : Nat, u < 1000 → M' 205 u = ax_s g S p (u : Int) := hs
  have sb : ∀ u : Int, 0 ≤ ax_s g S p u ∧ ax_s g S p u ≤ 600 := fun u => bx_s_bd h6
  have bo := rx_208 (M := M') (s := fun u => ax_s g S p (u : Int)) (fun u hu => hs u (by omega)) (fun u _ => ⟨(sb u).1, by have := (sb u).2; omega⟩)
  have bl : ax_b0 g S p ≤ 500 := cu_b_le _
  have bo' : E_C 208 [192] M' = some ((ax_b0 g S p : Int), M') := bo
  have l1 : e_op 60 [205, (ax_b0 g S p : Int)] M' = some (ax_s g S p (ax_b0 g S p : Int)) := (r_rd5 (by omega) (by omega)).trans (by rw [Int.toNat_natCast, hs _ (by omega)])
  have pw := (bx_pw (u := (ax_b0 g S p : Int)) (z := ax_s g S p (ax_b0 g S p : Int)) ⟨by omega, by omega⟩ ⟨(sb _).1, by have := (sb (ax_b0 g S p : Int)).2; omega⟩).1
  refine ⟨M', ?_, sm⟩
  unfold ax_PW
  clear hs sb bo bl
  generalize ax_s g S p (ax_b0 g S p : Int) = z at *
  generalize (ax_b0 g S p : Int) = b at *
  rw [r_ent (show e_rok 209 [192, p] = true from decide_eq_true r_ref)]
  show e_tv E_C (E_V 209) e_t209_0 [192, p, 0] M = _
  unfold e_t209_0
  simp [zq_a, zq_b, zq_c, zq_d, zq_e, zq_f, zq_g, zq_h, zq_i, zq_j, zq_k, zq_l, zq_m, zq_n, zq_o, zq_p, zq_q, zq_r, zq_s, zq_t, zq_u, zq_v, zq_w, zq_x, zq_y, zq_z, zq_A, zq_B, zq_C, zq_D, zq_E, zq_F, zq_G, zq_H, zq_I, zq_J, zq_K, zq_L, ↓zq_M, ↓zq_N, ↓zq_O, ↓zq_P, ↓zq_Q, ↓zq_R, zq_S, zq_T, zq_U, zq_V, zq_W, zq_X, zq_Y, zq_Z, zq_0, zq_1, zq_2, zq_3, zq_4, zq_5, ↓zq_6, ↓zq_7, ↓zq_8, ↓zq_9, ↓zq_aa, zq_ab, zq_ac, zq_ad, zq_ae, zq_af, zq_ag, ↓zq_ah, ↓zq_ai, ↓zq_aj, zq_ak, ↓zq_al, ↓zq_am, e_b1, e_b2, x_o1, x_o2, r_O25, k, bo', l1, pw]
/-- DIODES, whatever CAUSES are off -/
theorem rx_diK {M : EM} {q : Int} {y : Nat} (k24 : M 192 24 = -1) (hq : 0 ≤ q ∧ q < 40) (hy : y < 8) : E_C 200 [192, q, (y : Int)] M = some (hd_DI (r_G M) q y, M) := by
  obtain ⟨yy, hyy⟩ : ∃ yy : Int, (y : Int) = yy := ⟨_, rfl⟩
  unfold hd_DI
  rw [hyy]
  have y0 : 0 ≤ yy ∧ yy < 8 := by omega
  have l1 : e_op 60 [193, 28 * q + 20 + yy] M = some (r_G M (28 * q + 20 + yy)) := r_rd (by omega) (by omega)
  have c2 : ¬ (-1 = 8 * q + yy) := by omega
  have w1 : e_w (28 * q) = 28 * q := a_w_id (by omega) (by omega)
  have w2 : e_w (28 * q + 20) = 28 * q + 20 := a_w_id (by omega) (by omega)
  have w3 : e_w (28 * q + 20 + yy) = 28 * q + 20 + yy := a_w_id (by omega) (by omega)
  have w4 : e_w (8 * q) = 8 * q := a_w_id (by omega) (by omega)
  have w5 : e_w (8 * q + yy) = 8 * q + yy := a_w_id (by omega) (by omega)
  by_cases c1 : r_G M (28 * q + 20 + yy) = 1
  · rw [if_pos c1]
    rw [c1] at l1
    rw [r_ent (show e_rok 200 [192, q, yy] = true from decide_eq_true r_ref)]
    show e_tv E_C (E_V 200) e_t200_0 [192, q, yy] M = _
    unfold e_t200_0
    simp [zq_a, zq_b, zq_c, zq_d, zq_e, zq_f, zq_g, zq_h, zq_i, zq_j, zq_k, zq_l, zq_m, zq_n, zq_o, zq_p, zq_q, zq_r, zq_s, zq_t, zq_u, zq_v, zq_w, zq_x, zq_y, zq_z, zq_A, zq_B, zq_C, zq_D, zq_E, zq_F, zq_G, zq_H, zq_I, zq_J, zq_K, zq_L, ↓zq_M, ↓zq_N, ↓zq_O, ↓zq_P, ↓zq_Q, ↓zq_R, zq_S, zq_T, zq_U, zq_V, zq_W, zq_X, zq_Y, zq_Z, zq_0, zq_1, zq_2, zq_3, zq_4, zq_5, ↓zq_6, ↓zq_7, ↓zq_8, ↓zq_9, ↓zq_aa, zq_ab, zq_ac, zq_ad, zq_ae, zq_af, zq_ag, ↓zq_ah, ↓zq_ai, ↓zq_aj, zq_ak, ↓zq_al, ↓zq_am, e_b1, e_b2, x_o1, x_o2, r_O0, r_F24, k24, w1, w2, w3, w4, w5, l1, c2]
  · rw [if_neg c1]
    rw [r_ent (show e_rok 200 [192, q, yy] = true from decide_eq_true r_ref)]
    show e_tv E_C (E_V 200) e_t200_0 [192, q, yy] M = _
    unfold e_t200_0
    simp [zq_a, zq_b, zq_c, zq_d, zq_e, zq_f, zq_g, zq_h, zq_i, zq_j, zq_k, zq_l, zq_m, zq_n, zq_o, zq_p, zq_q, zq_r, zq_s, zq_t, zq_u, zq_v, zq_w, zq_x, zq_y, zq_z, zq_A, zq_B, zq_C, zq_D, zq_E, zq_F, zq_G, zq_H, zq_I, zq_J, zq_K, zq_L, ↓zq_M, ↓zq_N, ↓zq_O, ↓zq_P, ↓zq_Q, ↓zq_R, zq_S, zq_T, zq_U, zq_V, zq_W, zq_X, zq_Y, zq_Z, zq_0, zq_1, zq_2, zq_3, zq_4, zq_5, ↓zq_6, ↓zq_7, ↓zq_8, ↓zq_9, ↓zq_aa, zq_ab, zq_ac, zq_ad, zq_ae, zq_af, zq_ag, ↓zq_ah, ↓zq_ai, ↓zq_aj, zq_ak, ↓zq_al, ↓zq_am, e_b1, e_b2, x_o1, x_o2, r_O0, w1, w2, w3, l1, c1]
theorem hd_DI_01 {g : Int → Int} {q : Int} {y : Nat} : hd_DI g q y = 0 ∨ hd_DI g q y = 1 := by
  unfold hd_DI
  by_cases c : g (28 * q + 20 + (y : Int)) = 1
  · rw [if_pos c]; exact Or.inr rfl
  · rw [if_neg c]; exact Or.inl rfl
