section
/-! settings of CELLS changed on the bench, CAUSES off or an HOUR asked in the reference: BEST POWER by both -/
def hd_SHs (g : Int → Int) (S : Int → Nat → Int) (q : Int) : Int := if g (28 * q + 19) = 0 then (S q 0 * (100 - S q 1) * (100 - S q 2)).tdiv 10000 else 0
def st_ok (g : Int → Int) (S : Int → Nat → Int) : Prop := ∀ q : Nat, (q : Int) < g 1198 → g (28 * (q : Int)) = 0 → ∀ a, a < 4 → 0 ≤ S q a ∧ S q a ≤ 100
def ax_s (g : Int → Int) (S : Int → Nat → Int) (p u : Int) : Int := bx_s g (hd_SHs g S) (fun q => S q 3) (hd_DI g) (cu_ln g (cu_in g p)) (cu_nl g (cu_in g p)) u
def ax_b0 (g : Int → Int) (S : Int → Nat → Int) (p : Int) : Nat := cu_b (fun u => ax_s g S p (u : Int)) 500
def ax_PW (g : Int → Int) (S : Int → Nat → Int) (p : Int) : Int := (ax_b0 g S p : Int) * ax_s g S p (ax_b0 g S p : Int)
theorem ax_PW_bd {g : Int → Int} {S : Int → Nat → Int} {p : Int} (h : cu_nl g (cu_in g p) ≤ 6) : 0 ≤ ax_PW g S p ∧ ax_PW g S p ≤ 1000000 := by
  have b : ax_b0 g S p ≤ 500 := cu_b_le _
  have s : 0 ≤ ax_s g S p (ax_b0 g S p : Int) ∧ ax_s g S p (ax_b0 g S p : Int) ≤ 600 := bx_s_bd h
  exact (bx_pw (u := (ax_b0 g S p : Int)) (z := ax_s g S p (ax_b0 g S p : Int)) ⟨by omega, by omega⟩ ⟨s.1, by omega⟩).2
theorem hd_bds {g : Int → Int} {S : Int → Nat → Int} (h : st_ok g S) : bx_bd g (hd_SHs g S) (fun q => S q 3) := by
  intro q hq hk
  refine ⟨?_, h q hq hk 3 (by decide)⟩
  unfold hd_SHs
  by_cases z : g (28 * (q : Int) + 19) = 0
  · rw [if_pos z]
    exact (bx_shv (h q hq hk 0 (by decide)) (h q hq hk 1 (by decide)) (h q hq hk 2 (by decide))).2
  · rw [if_neg z]
    decide
/-- a CELL of the bench, as it was told -/
def hd_rw (g : Int → Int) (N : EM) (j q : Nat) : Prop := N 174 j = q ∧ (q : Int) < g 1198 ∧ g (28 * (q : Int)) = 0 ∧ (∀ a : Nat, a < 4 → N 175 (4 * j + a) = g (28 * (q : Int) + 15 + (a : Int))) ∧ N 176 j = g (28 * (q : Int) + 19)
theorem hd_raw {g : Int → Int} {M N : EM} {X : Nat → Int} {L : Nat} (h40 : g 1198 ≤ 40) (hC : h_C M 0 g) (ok : ∀ l, l < L → bx_ok M g (X l)) (hS : bx_SP g M N X L) : ∀ j, j < bx_oc g X L → ∃ q, hd_rw g N j q := by
  intro j hj
  obtain ⟨l, k, h1, h2, h3, -⟩ := bx_fc_at L j hj
  have c := hS.2.2.2.2.1 l k h1 h2
  rw [← h3] at c
  have b := bx_ok_ce h40 (ok l h1) h2
  obtain ⟨z, z1, z2, z3⟩ := ok l h1
  obtain ⟨q, hq⟩ : ∃ q : Nat, bx_ce g (X l) k = q := ⟨(bx_ce g (X l) k).toNat, by omega⟩
  rw [hq, Int.toNat_natCast] at c
  have qq : (q : Int) < g 1198 ∧ g (28 * (q : Int)) = 0 := by
    rcases z3 with z3 | ⟨z3, n, gr, ⟨-, b1, -, b3, -, -, b6⟩⟩
    · have e : bx_ce g (X l) k = X l := if_pos (by rw [z1]; exact z3)
      rw [← hq, e, z1]
      exact ⟨z2, z3⟩
    · have kn : ¬ g (28 * X l) = 0 := by rw [z1]; omega
      have en : bx_nc g (X l) = n := by
        unfold bx_nc
        rw [if_neg kn, z1, b1, Int.toNat_natCast]
      obtain ⟨⟨m1, m2, m3, -, -⟩, c2, -⟩ := b6 k (by omega)
      have e : bx_ce g (X l) k = g (28 * X l + 3 + (k : Int)) := if_neg kn
      rw [← hq, e, z1]
      exact ⟨by omega, c2⟩
  obtain ⟨d1, d2, d3, d4⟩ := c
  obtain ⟨c1, c2, -⟩ := hC q qq.1 qq.2
  exact ⟨q, d1, qq.1, qq.2, fun a ha => (d4 a ha).trans (c1 a ha).1, d3.trans c2.1⟩
theorem hd_kn2 {g : Int → Int} {S : Int → Nat → Int} {N N' : EM} {j q : Nat} (hS : st_ok g S) (h : hd_rw g N j q) (h1 : ∀ a, a < 4 → N' 175 (4 * j + a) = S q a) (h2 : ∀ id k, id ≠ 175 → N' id k = N id k) : bx_kn g (hd_SHs g S) (fun q => S q 3) N' j := by
  obtain ⟨d1, d2, d3, d4, d5⟩ := h
  have b := hS q d2 d3
  have a0 := h1 0 (by decide)
  rw [Nat.add_zero] at a0
  refine ⟨q, (h2 _ _ (by decide)).trans d1, d2, d3, fun a ha => by rw [h1 a ha]; exact b a ha, ?_, h1 3 (by decide)⟩
  unfold bx_sh hd_SHs
  rw [(h2 _ _ (by decide)).trans d5, a0, h1 1 (by decide), h1 2 (by decide)]
/-- the class: spread, settings changed, BEST -/
theorem ax_sp {M : EM} {p : Nat} (h : hd_all M) (hp : (p : Int) < r_G M 1198) : ∃ N, E_C 1 [170, (p : Int)] M = some (0, N) ∧ N 170 0 = (ax_nc (r_G M) (p : Int) : Int) ∧ ax_nc (r_G M) (p : Int) ≤ 40 ∧ (∀ j, j < ax_nc (r_G M) (p : Int) → ∃ q, hd_rw (r_G M) N j q) ∧ (∀ id k, ¬ (170 ≤ id ∧ id ≤ 176) → N id k = M id k) ∧ N 171 0 = 0 ∧ ∀ S N', st_ok (r_G M) S → (∀ j q, j < ax_nc (r_G M) (p : Int) → hd_rw (r_G M) N j q → ∀ a, a < 4 → N' 175 (4 * j + a) = S q a) → (∀ id k, id ≠ 175 → N' id k = N id k) → ∃ M', E_C 21 [170] N' = some (0, M') ∧ M' 170 1 = ax_PW (r_G M) S (p : Int) ∧ M' 171 0 = 0 ∧ ∀ id k, ¬ (170 ≤ id ∧ id ≤ 181) → M' id k = M id k := by
  obtain ⟨N, k, hX, hS, hN, h7, e, h0⟩ := ax_1 h hp
  obtain ⟨hB, hC, hD, h171⟩ := h
  have h40 := hB.2.1.2
  have raw := hd_raw h40 hC hX.2.1 hS
  have fr := hS.2.2.2.2.2.2.2.1
  refine ⟨N, k, hN.2.1, hX.2.2.1, raw, fr, h0, fun S N' hs h1 h2 => ?_⟩
  obtain ⟨n1, n2, n3, n4, n5, n6⟩ := hN
  have hN' : bx_ND (r_G M) (hd_SHs (r_G M) S) (fun q => S q 3) (hd_DI (r_G M)) (cu_ln (r_G M) (cu_in (r_G M) (p : Int))) (cu_nl (r_G M) (cu_in (r_G M) (p : Int))) N' := by
    refine ⟨fun j hj => ?_, (h2 _ _ (by decide)).trans n2, (h2 _ _ (by decide)).trans n3, fun l hl => (h2 _ _ (by decide)).trans (n4 l hl), fun l k hl hk => ?_, fun l y hl hy => (h2 _ _ (by decide)).trans (n6 l y hl hy)⟩
    · obtain ⟨q, hq⟩ := raw j hj
      exact hd_kn2 hs hq (h1 j q hj hq) h2
    · rw [h2 _ _ (by decide), h2 _ _ (by decide)]
      exact n5 l k hl hk
  obtain ⟨M', m, m6, ms, m2, m1, mf⟩ := bx_21 h40 hD (fun id hid => funext fun k => (h2 _ _ (by omega)).trans (congrFun (e id hid) k)) (hd_bds hs) hX hN'
  exact ⟨M', m, m1, (mf _ _ (by decide) (by omega)).trans ((h2 _ _ (by decide)).trans h0), fun id k hid => (mf _ _ (by omega) (by omega)).trans ((h2 _ _ (by omega)).trans (fr _ _ (by omega)))⟩
/-- nothing that is told has changed -/
theorem hd_all_fr {M M' : EM} (h : hd_all M) (f : ∀ id k, ¬ (170 ≤ id ∧ id ≤ 191) → M' id k = M id k) (h0 : M' 171 0 = 0) : hd_all M' := by
  obtain ⟨hB, hC, hD, -⟩ := h
  have eG : r_G M' = r_G M := funext fun i => f _ _ (by decide)
  have e : ∀ id, id < 162 → M' id = M id := fun id hid => funext fun k => f _ _ (by omega)
  unfold hd_all
  rw [eG]
  refine ⟨?_, ?_, fun q hq => ?_, h0⟩
  · unfold h_B
    rw [e (10 + 0) (by decide), e (11 + 0) (by decide), e (13 + 0) (by decide)]
    exact hB
  · intro q hq
    unfold h_Cq
    rw [e (21 + 0) (by decide), e (22 + 0) (by decide), e (23 + 0) (by decide), e (24 + 0) (by decide)]
    exact hC q hq
  · have q40 : q < 40 := by have := hB.2.1.2; omega
    refine hd_q_cg (hD q hq) ⟨rfl, rfl, fun _ _ _ _ _ => rfl⟩ (fun _ _ _ => ⟨rfl, fun _ => rfl⟩) ⟨?_, ?_, fun k _ => ⟨?_, ?_, ?_⟩, fun i _ => ⟨?_, ?_⟩, fun k _ => ?_⟩
    · rw [e (12 + 0) (by decide)]
    · rw [e (14 + 0) (by decide)]
    · rw [e (15 + 0) (by decide)]
    · rw [e (16 + 0) (by decide)]
    · rw [e (17 + 0) (by decide)]
    · rw [e (19 + 0) (by decide)]
    · rw [e (20 + 0) (by decide)]
    · rw [e (37 + 0 + q) (by omega)]
/-- the reference: BEST POWER, however it is asked -/
theorem rx_209 {M : EM} {g : Int → Int} {S : Int → Nat → Int} {p : Int} (hG : r_G M = g) (hW : r_W g) (hm : rx_MD M (hd_SHs g S) (fun q => S q 3) (hd_DI g)) (hcv : hd_cvs g) (hp : 0 ≤ p ∧ p < g 1198) (h6 : cu_nl g (cu_in g p) ≤ 6) : ∃ M', E_C 209 [192, p] M = some (ax_PW g S p, M') ∧ rx_sm M M' := by
  obtain ⟨M', k, sm, hs⟩ := rx_gives hG hm hcv (b := g 1198) hW.2.1 (Int.le_refl _) (hW.2.2.1 p hp.1 hp.2)
  have hs : ∀ u : Nat, u < 1000 → M' 205 u = ax_s g S p (u : Int) := hs
  have sb : ∀ u : Int, 0 ≤ ax_s g S p u ∧ ax_s g S p u ≤ 600 := fun u => bx_s_bd h6
  have bo := rx_208 (M := M') (s := fun u => ax_s g S p (u : Int)) (fun u hu => hs u (by omega)) (fun u _ => ⟨(sb u).1, by have := (sb u).2; omega⟩)
  have bl : ax_b0 g S p ≤ 500 := cu_b_le _
  have bo' : E_C 208 [192] M' = some ((ax_b0 g S p : Int), M') := bo
  have l1 : e_op 60 [205, (ax_b0 g S p : Int)] M' = some (ax_s g S p (ax_b0 g S p : Int)) := (r_rd5 (by omega) (by omega)).trans (by rw [Int.toNat_natCast, hs _ (by omega)])
  have pw := (bx_pw (u := (ax_b0 g S p : Int)) (z := ax_s g S p (ax_b0 g S p : Int)) ⟨by omega, by omega⟩ ⟨(sb _).1, by have := (sb (ax_b0 g S p : Int)).2; omega⟩).1
  refine ⟨M', ?_, sm⟩
  unfold ax_PW
  clear hs sb bo bl
  generalize ax_s g S p (ax_b0 g S p : Int) = z at *
  generalize (ax_b0 g S p : Int) = b at *
  rw [r_ent (show e_rok 209 [192, p] = true from decide_eq_true r_ref)]
  show e_tv E_C (E_V 209) e_t209_0 [192, p, 0] M = _
  unfold e_t209_0
  simp [zq_a, zq_b, zq_c, zq_d, zq_e, zq_f, zq_g, zq_h, zq_i, zq_j, zq_k, zq_l, zq_m, zq_n, zq_o, zq_p, zq_q, zq_r, zq_s, zq_t, zq_u, zq_v, zq_w, zq_x, zq_y, zq_z, zq_A, zq_B, zq_C, zq_D, zq_E, zq_F, zq_G, zq_H, zq_I, zq_J, zq_K, zq_L, ↓zq_M, ↓zq_N, ↓zq_O, ↓zq_P, ↓zq_Q, ↓zq_R, zq_S, zq_T, zq_U, zq_V, zq_W, zq_X, zq_Y, zq_Z, zq_0, zq_1, zq_2, zq_3, zq_4, zq_5, ↓zq_6, ↓zq_7, ↓zq_8, ↓zq_9, ↓zq_aa, zq_ab, zq_ac, zq_ad, zq_ae, zq_af, zq_ag, ↓zq_ah, ↓zq_ai, ↓zq_aj, zq_ak, ↓zq_al, ↓zq_am, e_b1, e_b2, x_o1, x_o2, r_O25, k, bo', l1, pw]
/-- DIODES, whatever CAUSES are off -/
theorem rx_diK {M : EM} {q : Int} {y : Nat} (k24 : M 192 24 = -1) (hq : 0 ≤ q ∧ q < 40) (hy : y < 8) : E_C 200 [192, q, (y : Int)] M = some (hd_DI (r_G M) q y, M) := by
  obtain ⟨yy, hyy⟩ : ∃ yy : Int, (y : Int) = yy := ⟨_, rfl⟩
  unfold hd_DI
  rw [hyy]
  have y0 : 0 ≤ yy ∧ yy < 8 := by omega
  have l1 : e_op 60 [193, 28 * q + 20 + yy] M = some (r_G M (28 * q + 20 + yy)) := r_rd (by omega) (by omega)
  have c2 : ¬ (-1 = 8 * q + yy) := by omega
  have w1 : e_w (28 * q) = 28 * q := a_w_id (by omega) (by omega)
  have w2 : e_w (28 * q + 20) = 28 * q + 20 := a_w_id (by omega) (by omega)
  have w3 : e_w (28 * q + 20 + yy) = 28 * q + 20 + yy := a_w_id (by omega) (by omega)
  have w4 : e_w (8 * q) = 8 * q := a_w_id (by omega) (by omega)
  have w5 : e_w (8 * q + yy) = 8 * q + yy := a_w_id (by omega) (by omega)
  by_cases c1 : r_G M (28 * q + 20 + yy) = 1
  · rw [if_pos c1]
    rw [c1] at l1
    rw [r_ent (show e_rok 200 [192, q, yy] = true from decide_eq_true r_ref)]
    show e_tv E_C (E_V 200) e_t200_0 [192, q, yy] M = _
    unfold e_t200_0
    simp [zq_a, zq_b, zq_c, zq_d, zq_e, zq_f, zq_g, zq_h, zq_i, zq_j, zq_k, zq_l, zq_m, zq_n, zq_o, zq_p, zq_q, zq_r, zq_s, zq_t, zq_u, zq_v, zq_w, zq_x, zq_y, zq_z, zq_A, zq_B, zq_C, zq_D, zq_E, zq_F, zq_G, zq_H, zq_I, zq_J, zq_K, zq_L, ↓zq_M, ↓zq_N, ↓zq_O, ↓zq_P, ↓zq_Q, ↓zq_R, zq_S, zq_T, zq_U, zq_V, zq_W, zq_X, zq_Y, zq_Z, zq_0, zq_1, zq_2, zq_3, zq_4, zq_5, ↓zq_6, ↓zq_7, ↓zq_8, ↓zq_9, ↓zq_aa, zq_ab, zq_ac, zq_ad, zq_ae, zq_af, zq_ag, ↓zq_ah, ↓zq_ai, ↓zq_aj, zq_ak, ↓zq_al, ↓zq_am, e_b1, e_b2, x_o1, x_o2, r_O0, r_F24, k24, w1, w2, w3, w4, w5, l1, c2]
  · rw [if_neg c1]
    rw [r_ent (show e_rok 200 [192, q, yy] = true from decide_eq_true r_ref)]
    show e_tv E_C (E_V 200) e_t200_0 [192, q, yy] M = _
    unfold e_t200_0
    simp [zq_a, zq_b, zq_c, zq_d, zq_e, zq_f, zq_g, zq_h, zq_i, zq_j, zq_k, zq_l, zq_m, zq_n, zq_o, zq_p, zq_q, zq_r, zq_s, zq_t, zq_u, zq_v, zq_w, zq_x, zq_y, zq_z, zq_A, zq_B, zq_C, zq_D, zq_E, zq_F, zq_G, zq_H, zq_I, zq_J, zq_K, zq_L, ↓zq_M, ↓zq_N, ↓zq_O, ↓zq_P, ↓zq_Q, ↓zq_R, zq_S, zq_T, zq_U, zq_V, zq_W, zq_X, zq_Y, zq_Z, zq_0, zq_1, zq_2, zq_3, zq_4, zq_5, ↓zq_6, ↓zq_7, ↓zq_8, ↓zq_9, ↓zq_aa, zq_ab, zq_ac, zq_ad, zq_ae, zq_af, zq_ag, ↓zq_ah, ↓zq_ai, ↓zq_aj, zq_ak, ↓zq_al, ↓zq_am, e_b1, e_b2, x_o1, x_o2, r_O0, w1, w2, w3, l1, c1]
theorem hd_DI_01 {g : Int → Int} {q : Int} {y : Nat} : hd_DI g q y = 0 ∨ hd_DI g q y = 1 := by
  unfold hd_DI
  by_cases c : g (28 * q + 20 + (y : Int)) = 1
  · rw [if_pos c]; exact Or.inr rfl
  · rw [if_neg c]; exact Or.inl rfl
end
section
/-! FAULTS on the bench: a DIODE found, suffered and recovered -/
theorem dg_32 {M : EM} {n : Nat} {w : Int} (h4 : M 170 4 = n) (hn : n ≤ 40) : ∃ G, E_C 32 [170, w] M = some (G, M) ∧ ((∃ k : Nat, G = k ∧ k < n ∧ M 172 k ≠ 0 ∧ (gd_n (fun y => M 172 y) k : Int) = w) ∨ (G = -1 ∧ (w < 0 ∨ (gd_n (fun y => M 172 y) n : Int) ≤ w))) := by
  have lp : ∀ (d m : Nat) (x2 x3 : Int), x3 = m → m + d = n → x2 = (gd_n (fun y => M 172 y) m : Int) → (w < 0 ∨ (gd_n (fun y => M 172 y) m : Int) ≤ w) → ∃ G, E_V 32 4 [170, w, x2, x3] M = some (G, M) ∧ ((∃ k : Nat, G = k ∧ k < n ∧ M 172 k ≠ 0 ∧ (gd_n (fun y => M 172 y) k : Int) = w) ∨ (G = -1 ∧ (w < 0 ∨ (gd_n (fun y => M 172 y) n : Int) ≤ w))) := by
    intro d
    induction d with
    | zero =>
      intro m x2 x3 h3 hm h2 hw
      have e : m = n := by omega
      subst e
      refine ⟨-1, ?_, Or.inr ⟨rfl, hw⟩⟩
      rw [← h3] at h4
      have q : ¬ (x3 < x3) := by omega
      clear hw h2
      rw [E_V_eq]
      show e_tv E_C (E_V 32) e_t32_4 [170, w, x2, x3] M = _
      unfold e_t32_4
      simp [zq_a, zq_b, zq_c, zq_d, zq_e, zq_f, zq_g, zq_h, zq_i, zq_j, zq_k, zq_l, zq_m, zq_n, zq_o, zq_p, zq_q, zq_r, zq_s, zq_t, zq_u, zq_v, zq_w, zq_x, zq_y, zq_z, zq_A, zq_B, zq_C, zq_D, zq_E, zq_F, zq_G, zq_H, zq_I, zq_J, zq_K, zq_L, ↓zq_M, ↓zq_N, ↓zq_O, ↓zq_P, ↓zq_Q, ↓zq_R, zq_S, zq_T, zq_U, zq_V, zq_W, zq_X, zq_Y, zq_Z, zq_0, zq_1, zq_2, zq_3, zq_4, zq_5, ↓zq_6, ↓zq_7, ↓zq_8, ↓zq_9, ↓zq_aa, zq_ab, zq_ac, zq_ad, zq_ae, zq_af, zq_ag, ↓zq_ah, ↓zq_ai, ↓zq_aj, zq_ak, ↓zq_al, ↓zq_am, e_b1, e_b2, x_o1, x_o2, bx_F4, h4, q]
    | succ d ih =>
      intro m x2 x3 h3 hm h2 hw
      have t : E_C 146 [172, x3] M = some (M 172 m, M) := w_atN (a := 172) (n := 40) (by decide +kernel) (j := m) h3 (by omega) M
      have gl := gd_n_le (D := fun y => M 172 y) m
      have q : x3 < (n : Int) := by omega
      have w3 : e_w (x3 + 1) = x3 + 1 := a_w_id (by omega) (by omega)
      have w2 : e_w (x2 + 1) = x2 + 1 := a_w_id (by omega) (by omega)
      obtain ⟨nn, hnn⟩ : ∃ nn : Int, (n : Int) = nn := ⟨_, rfl⟩
      have h4' : M 170 4 = nn := h4.trans hnn
      rw [hnn] at q
      by_cases z : M 172 m = 0
      · have eg : gd_n (fun y => M 172 y) (m + 1) = gd_n (fun y => M 172 y) m := gd_n_0 z
        obtain ⟨G, k, kk⟩ := ih (m + 1) x2 (x3 + 1) (by omega) (by omega) (by rw [eg]; exact h2) (by rw [eg]; exact hw)
        refine ⟨G, ?_, kk⟩
        have k33 : E_V 32 33 [170, w, x2, x3] M = some (G, M) := by
          rw [E_V_eq]
          show e_tv E_C (E_V 32) e_t32_33 [170, w, x2, x3] M = _
          unfold e_t32_33
          simp [zq_a, zq_b, zq_c, zq_d, zq_e, zq_f, zq_g, zq_h, zq_i, zq_j, zq_k, zq_l, zq_m, zq_n, zq_o, zq_p, zq_q, zq_r, zq_s, zq_t, zq_u, zq_v, zq_w, zq_x, zq_y, zq_z, zq_A, zq_B, zq_C, zq_D, zq_E, zq_F, zq_G, zq_H, zq_I, zq_J, zq_K, zq_L, ↓zq_M, ↓zq_N, ↓zq_O, ↓zq_P, ↓zq_Q, ↓zq_R, zq_S, zq_T, zq_U, zq_V, zq_W, zq_X, zq_Y, zq_Z, zq_0, zq_1, zq_2, zq_3, zq_4, zq_5, ↓zq_6, ↓zq_7, ↓zq_8, ↓zq_9, ↓zq_aa, zq_ab, zq_ac, zq_ad, zq_ae, zq_af, zq_ag, ↓zq_ah, ↓zq_ai, ↓zq_aj, zq_ak, ↓zq_al, ↓zq_am, e_b1, e_b2, x_o1, x_o2, w3, k]
        clear k kk ih hw h2 gl eg h4 hnn
        rw [z] at t
        rw [E_V_eq]
        show e_tv E_C (E_V 32) e_t32_4 [170, w, x2, x3] M = _
        unfold e_t32_4
        simp [zq_a, zq_b, zq_c, zq_d, zq_e, zq_f, zq_g, zq_h, zq_i, zq_j, zq_k, zq_l, zq_m, zq_n, zq_o, zq_p, zq_q, zq_r, zq_s, zq_t, zq_u, zq_v, zq_w, zq_x, zq_y, zq_z, zq_A, zq_B, zq_C, zq_D, zq_E, zq_F, zq_G, zq_H, zq_I, zq_J, zq_K, zq_L, ↓zq_M, ↓zq_N, ↓zq_O, ↓zq_P, ↓zq_Q, ↓zq_R, zq_S, zq_T, zq_U, zq_V, zq_W, zq_X, zq_Y, zq_Z, zq_0, zq_1, zq_2, zq_3, zq_4, zq_5, ↓zq_6, ↓zq_7, ↓zq_8, ↓zq_9, ↓zq_aa, zq_ab, zq_ac, zq_ad, zq_ae, zq_af, zq_ag, ↓zq_ah, ↓zq_ai, ↓zq_aj, zq_ak, ↓zq_al, ↓zq_am, e_b1, e_b2, x_o1, x_o2, bx_F4, bx_G9, h4', q, t, k33]
      · have eg : gd_n (fun y => M 172 y) (m + 1) = gd_n (fun y => M 172 y) m + 1 := gd_n_1 z
        by_cases c : x2 = w
        · refine ⟨x3, ?_, Or.inl ⟨m, h3, by omega, z, by rw [← h2]; exact c⟩⟩
          clear ih hw h2 gl eg h4 hnn
          generalize M 172 m = v at *
          rw [E_V_eq]
          show e_tv E_C (E_V 32) e_t32_4 [170, w, x2, x3] M = _
          unfold e_t32_4
          simp [zq_a, zq_b, zq_c, zq_d, zq_e, zq_f, zq_g, zq_h, zq_i, zq_j, zq_k, zq_l, zq_m, zq_n, zq_o, zq_p, zq_q, zq_r, zq_s, zq_t, zq_u, zq_v, zq_w, zq_x, zq_y, zq_z, zq_A, zq_B, zq_C, zq_D, zq_E, zq_F, zq_G, zq_H, zq_I, zq_J, zq_K, zq_L, ↓zq_M, ↓zq_N, ↓zq_O, ↓zq_P, ↓zq_Q, ↓zq_R, zq_S, zq_T, zq_U, zq_V, zq_W, zq_X, zq_Y, zq_Z, zq_0, zq_1, zq_2, zq_3, zq_4, zq_5, ↓zq_6, ↓zq_7, ↓zq_8, ↓zq_9, ↓zq_aa, zq_ab, zq_ac, zq_ad, zq_ae, zq_af, zq_ag, ↓zq_ah, ↓zq_ai, ↓zq_aj, zq_ak, ↓zq_al, ↓zq_am, e_b1, e_b2, x_o1, x_o2, bx_F4, bx_G9, h4', q, t, z, c]
        · obtain ⟨G, k, kk⟩ := ih (m + 1) (x2 + 1) (x3 + 1) (by omega) (by omega) (by omega) (by omega)
          refine ⟨G, ?_, kk⟩
          have k33 : E_V 32 33 [170, w, x2 + 1, x3] M = some (G, M) := by
            rw [E_V_eq]
            show e_tv E_C (E_V 32) e_t32_33 [170, w, x2 + 1, x3] M = _
            unfold e_t32_33
            simp [zq_a, zq_b, zq_c, zq_d, zq_e, zq_f, zq_g, zq_h, zq_i, zq_j, zq_k, zq_l, zq_m, zq_n, zq_o, zq_p, zq_q, zq_r, zq_s, zq_t, zq_u, zq_v, zq_w, zq_x, zq_y, zq_z, zq_A, zq_B, zq_C, zq_D, zq_E, zq_F, zq_G, zq_H, zq_I, zq_J, zq_K, zq_L, ↓zq_M, ↓zq_N, ↓zq_O, ↓zq_P, ↓zq_Q, ↓zq_R, zq_S, zq_T, zq_U, zq_V, zq_W, zq_X, zq_Y, zq_Z, zq_0, zq_1, zq_2, zq_3, zq_4, zq_5, ↓zq_6, ↓zq_7, ↓zq_8, ↓zq_9, ↓zq_aa, zq_ab, zq_ac, zq_ad, zq_ae, zq_af, zq_ag, ↓zq_ah, ↓zq_ai, ↓zq_aj, zq_ak, ↓zq_al, ↓zq_am, e_b1, e_b2, x_o1, x_o2, w3, k]
          clear k kk ih hw h2 gl eg h4 hnn
          generalize M 172 m = v at *
          rw [E_V_eq]
          show e_tv E_C (E_V 32) e_t32_4 [170, w, x2, x3] M = _
          unfold e_t32_4
          simp [zq_a, zq_b, zq_c, zq_d, zq_e, zq_f, zq_g, zq_h, zq_i, zq_j, zq_k, zq_l, zq_m, zq_n, zq_o, zq_p, zq_q, zq_r, zq_s, zq_t, zq_u, zq_v, zq_w, zq_x, zq_y, zq_z, zq_A, zq_B, zq_C, zq_D, zq_E, zq_F, zq_G, zq_H, zq_I, zq_J, zq_K, zq_L, ↓zq_M, ↓zq_N, ↓zq_O, ↓zq_P, ↓zq_Q, ↓zq_R, zq_S, zq_T, zq_U, zq_V, zq_W, zq_X, zq_Y, zq_Z, zq_0, zq_1, zq_2, zq_3, zq_4, zq_5, ↓zq_6, ↓zq_7, ↓zq_8, ↓zq_9, ↓zq_aa, zq_ab, zq_ac, zq_ad, zq_ae, zq_af, zq_ag, ↓zq_ah, ↓zq_ai, ↓zq_aj, zq_ak, ↓zq_al, ↓zq_am, e_b1, e_b2, x_o1, x_o2, bx_F4, bx_G9, h4', q, t, z, c, w2, k33]
  obtain ⟨G, k, kk⟩ := lp n 0 0 0 rfl (by omega) rfl (by
    have e : gd_n (fun y => M 172 y) 0 = 0 := rfl
    rw [e]
    omega)
  refine ⟨G, ?_, kk⟩
  rw [r_ent (show e_rok 32 [170, w] = true from bx_r (M := M) rfl (by decide +kernel))]
  show e_tv E_C (E_V 32) e_t32_0 [170, w, 0, 0] M = _
  unfold e_t32_0
  simp [zq_a, zq_b, zq_c, zq_d, zq_e, zq_f, zq_g, zq_h, zq_i, zq_j, zq_k, zq_l, zq_m, zq_n, zq_o, zq_p, zq_q, zq_r, zq_s, zq_t, zq_u, zq_v, zq_w, zq_x, zq_y, zq_z, zq_A, zq_B, zq_C, zq_D, zq_E, zq_F, zq_G, zq_H, zq_I, zq_J, zq_K, zq_L, ↓zq_M, ↓zq_N, ↓zq_O, ↓zq_P, ↓zq_Q, ↓zq_R, zq_S, zq_T, zq_U, zq_V, zq_W, zq_X, zq_Y, zq_Z, zq_0, zq_1, zq_2, zq_3, zq_4, zq_5, ↓zq_6, ↓zq_7, ↓zq_8, ↓zq_9, ↓zq_aa, zq_ab, zq_ac, zq_ad, zq_ae, zq_af, zq_ag, ↓zq_ah, ↓zq_ai, ↓zq_aj, zq_ak, ↓zq_al, ↓zq_am, e_b1, e_b2, x_o1, x_o2, k]
/-! what a FAULT changes -/
def ft_dc (C : Nat → Int) (c f : Nat) : Int := if 1 ≤ f ∧ f ≤ c then C (f - 1) else -1
def ft_br (D : Nat → Int) (c f : Nat) : Int := if c < f then D (f - 1 - c) else -1
def ft_SH (g : Int → Int) (a q : Int) : Int := if q = a then 0 else hd_SH g q
def ft_DI (g : Int → Int) (b q : Int) (y : Nat) : Int := if g (28 * q + 20 + (y : Int)) = 1 ∧ b ≠ 8 * q + (y : Int) then 1 else 0
theorem ft_SH_n {g : Int → Int} {a q : Int} (h : q ≠ a) : ft_SH g a q = hd_SH g q := if_neg h
theorem ft_SH_e {g : Int → Int} {a : Int} : ft_SH g a a = 0 := if_pos rfl
theorem ft_DI_n {g : Int → Int} {b q : Int} {y : Nat} (h : b ≠ 8 * q + (y : Int)) : ft_DI g b q y = hd_DI g q y := by
  unfold ft_DI hd_DI
  by_cases c : g (28 * q + 20 + (y : Int)) = 1
  · rw [if_pos ⟨c, h⟩, if_pos c]
  · rw [if_neg (fun e => c e.1), if_neg c]
theorem ft_DI_e {g : Int → Int} {q : Int} {y : Nat} : ft_DI g (8 * q + (y : Int)) q y = 0 := if_neg (fun e => e.2 rfl)
theorem ft_DI_01 {g : Int → Int} {b q : Int} {y : Nat} : ft_DI g b q y = 0 ∨ ft_DI g b q y = 1 := by
  unfold ft_DI
  by_cases c : g (28 * q + 20 + (y : Int)) = 1 ∧ b ≠ 8 * q + (y : Int)
  · rw [if_pos c]; exact Or.inr rfl
  · rw [if_neg c]; exact Or.inl rfl
theorem ft_bd {g : Int → Int} {WM : Int → Int} {a : Int} (h : bx_bd g (hd_SH g) WM) : bx_bd g (ft_SH g a) WM := by
  intro q hq hk
  obtain ⟨h1, h2⟩ := h q hq hk
  refine ⟨?_, h2⟩
  unfold ft_SH
  by_cases c : (q : Int) = a
  · rw [if_pos c]; decide
  · rw [if_neg c]; exact h1
theorem ft_RD_cg {g : Int → Int} {SH SH' WM : Int → Int} {DI DI' : Int → Nat → Int} {X : Nat → Int} {L : Nat} {B : EM} (h : bx_RD g SH WM DI X L B) (hs : ∀ l k, l < L → k < bx_nc g (X l) → SH' (bx_ce g (X l) k) = SH (bx_ce g (X l) k)) (hd : ∀ l y, l < L → y < bx_ng g (X l) → DI' (X l) y = DI (X l) y) : bx_RD g SH' WM DI' X L B := by
  obtain ⟨r1, r2, r3, r4⟩ := h
  refine ⟨r1, r2, fun l k hl hk => ⟨(r3 l k hl hk).1, fun c hc => ?_⟩, fun l y hl hy => ?_⟩
  · rw [(r3 l k hl hk).2 c hc]
    unfold cu_v
    rw [hs l k hl hk]
  · rw [r4 l y hl hy, hd l y hl hy]
theorem bx_og_at {g : Int → Int} {X : Nat → Int} : ∀ i j, j < bx_og g X i → ∃ l y, l < i ∧ y < bx_ng g (X l) ∧ j = bx_og g X l + y := by
  intro i
  induction i with
  | zero => intro j hj; exact absurd hj (Nat.not_lt_zero _)
  | succ i ih =>
    intro j hj
    have hj : j < bx_og g X i + bx_ng g (X i) := hj
    rcases Nat.lt_or_ge j (bx_og g X i) with c | c
    · obtain ⟨l, y, h1, h2, h3⟩ := ih j c
      exact ⟨l, y, by omega, h2, h3⟩
    · exact ⟨i, j - bx_og g X i, by omega, by omega, by omega⟩
theorem bx_og_u {g : Int → Int} {X : Nat → Int} {l l' y y' : Nat} (hy : y < bx_ng g (X l)) (hy' : y' < bx_ng g (X l')) (e : bx_og g X l + y = bx_og g X l' + y') : l = l' ∧ y = y' := by
  have key : ∀ {l l' y y' : Nat}, y < bx_ng g (X l) → bx_og g X l + y = bx_og g X l' + y' → ¬ l < l' := by
    intro l l' y y' h e c
    have m := bx_og_m (g := g) (X := X) (l' - (l + 1)) (l + 1)
    rw [show l + 1 + (l' - (l + 1)) = l' by omega] at m
    have m : bx_og g X l + bx_ng g (X l) ≤ bx_og g X l' := m
    omega
  have a := key hy e
  have b := key hy' e.symm
  have c : l = l' := by omega
  subst c
  exact ⟨rfl, by omega⟩
theorem bx_oc_u {g : Int → Int} {X : Nat → Int} {l l' y y' : Nat} (hy : y < bx_nc g (X l)) (hy' : y' < bx_nc g (X l')) (e : bx_oc g X l + y = bx_oc g X l' + y') : l = l' ∧ y = y' := by
  have key : ∀ {l l' y y' : Nat}, y < bx_nc g (X l) → bx_oc g X l + y = bx_oc g X l' + y' → ¬ l < l' := by
    intro l l' y y' h e c
    have m := bx_oc_m (g := g) (X := X) (l' - (l + 1)) (l + 1)
    rw [show l + 1 + (l' - (l + 1)) = l' by omega] at m
    have m : bx_oc g X l + bx_nc g (X l) ≤ bx_oc g X l' := m
    omega
  have a := key hy e
  have b := key hy' e.symm
  have c : l = l' := by omega
  subst c
  exact ⟨rfl, by omega⟩
/-- no CELL is there twice -/
def ft_ij (g : Int → Int) (X : Nat → Int) (L : Nat) : Prop := ∀ l k l' k', l < L → k < bx_nc g (X l) → l' < L → k' < bx_nc g (X l') → bx_ce g (X l) k = bx_ce g (X l') k' → l = l' ∧ k = k'
theorem ft_inj {M : EM} {g : Int → Int} {y : Nat} (h40 : g 1198 ≤ 40) (hB : h_B M 0 g) (hD : hd_D M 0 g) (hy : (y : Int) < g 1198) (hk : g (28 * (y : Int)) ≠ 3) : ft_ij g (cu_ln g (y : Int)) (cu_nl g (y : Int)) := by
  obtain ⟨d0, d1, d2, d3⟩ := hD y hy
  obtain ⟨-, ok, -, -⟩ := bx_lines h40 hB hD hy hk
  intro l k l' k' hl hk hl' hk' e
  have o := ok l hl
  have o' := ok l' hl'
  by_cases c : g (28 * (y : Int)) = 2
  · obtain ⟨n, ⟨n1, n2⟩, b1, b2, b3, b4⟩ := d2 c
    have eL : cu_nl g (y : Int) = n := by
      unfold cu_nl
      rw [if_pos c, b1, Int.toNat_natCast]
    have eX : ∀ l : Nat, cu_ln g (y : Int) l = g (28 * (y : Int) + 3 + (l : Int)) := fun l => if_pos c
    rw [eL] at hl hl'
    have i1 := bx_ok_in o hk
    have i2 := bx_ok_in o' hk'
    obtain ⟨⟨m1, m2, m3, m4, m5⟩, m6⟩ := b4 l hl
    obtain ⟨⟨m1', m2', m3', m4', m5'⟩, m6'⟩ := b4 l' hl'
    rw [e] at i1
    rw [eX l] at i1 o hk e
    rw [eX l'] at i2 o' hk' e i1
    have xx : g (28 * (y : Int) + 3 + (l : Int)) = g (28 * (y : Int) + 3 + (l' : Int)) := by
      rcases i1 with ⟨i1, j1⟩ | ⟨i1, j1⟩
      · rcases i2 with ⟨i2, j2⟩ | ⟨i2, j2⟩
        · omega
        · rw [j1, m4] at j2
          omega
      · rcases i2 with ⟨i2, j2⟩ | ⟨i2, j2⟩
        · rw [j2, m4'] at j1
          omega
        · rw [j1] at j2
          omega
    have ll : l = l' := by
      rcases Nat.lt_trichotomy l l' with c2 | c2 | c2
      · exact absurd xx (m5' l c2)
      · exact c2
      · exact absurd xx.symm (m5 l' c2)
    subst ll
    refine ⟨rfl, ?_⟩
    obtain ⟨z, hz⟩ : ∃ z : Nat, g (28 * (y : Int) + 3 + (l : Int)) = z := ⟨(g (28 * (y : Int) + 3 + (l : Int))).toNat, by omega⟩
    rw [hz] at o hk hk' e
    exact bx_ok_row o hk hk' e
  · have eL : cu_nl g (y : Int) = 1 := if_neg c
    have eX : ∀ l : Nat, cu_ln g (y : Int) l = y := fun l => if_neg c
    rw [eL] at hl hl'
    have e1 : l = l' := by omega
    subst e1
    rw [eX l] at e hk hk' o
    exact ⟨rfl, bx_ok_row o hk hk' e⟩
theorem ft_inn {M : EM} {g : Int → Int} {p : Nat} (hD : hd_D M 0 g) (hp : (p : Int) < g 1198) : ∃ y : Nat, cu_in g (p : Int) = y ∧ (y : Int) < g 1198 ∧ g (28 * (y : Int)) ≠ 3 := by
  obtain ⟨-, -, -, d3⟩ := hD p hp
  by_cases c : g (28 * (p : Int)) = 3
  · obtain ⟨⟨c1, c2, c3, ⟨m1, m2, m3, m4, m5⟩, c5⟩, -⟩ := d3 c
    have e0 : (28 * (p : Int) + 3 + ((0 : Nat) : Int)) = 28 * (p : Int) + 3 := by omega
    rw [e0] at m1 m2 m3 c5
    obtain ⟨y, hy⟩ : ∃ y : Nat, g (28 * (p : Int) + 3) = y := ⟨(g (28 * (p : Int) + 3)).toNat, by omega⟩
    refine ⟨y, ?_, by omega, by rw [← hy]; exact c5⟩
    unfold cu_in
    rw [if_pos c, hy]
  · refine ⟨p, ?_, hp, c⟩
    unfold cu_in
    rw [if_neg c]
theorem ft_X1 {M : EM} {g : Int → Int} {x : Int} (ok : bx_ok M g x) : 1 ≤ bx_nc g x ∧ bx_ng g x ≤ 8 := by
  obtain ⟨z, z1, z2, z3⟩ := ok
  subst z1
  rcases z3 with z3 | ⟨z3, n, gr, ⟨b0, b1, -, b3, -⟩⟩
  · have e : bx_nc g (z : Int) = 1 := if_pos z3
    have e2 : bx_ng g (z : Int) = 1 := if_pos z3
    omega
  · have kn : ¬ g (28 * (z : Int)) = 0 := by omega
    have e : bx_nc g (z : Int) = n := by
      unfold bx_nc
      rw [if_neg kn, b1, Int.toNat_natCast]
    have e2 : bx_ng g (z : Int) = gr := by
      unfold bx_ng
      rw [if_neg kn, b3, Int.toNat_natCast]
    omega
theorem ft_Xi {M : EM} {g : Int → Int} {X : Nat → Int} {L : Nat} (ok : ∀ l, l < L → bx_ok M g (X l)) (ij : ft_ij g X L) {l l' : Nat} (hl : l < L) (hl' : l' < L) (e : X l = X l') : l = l' := by
  have a := (ft_X1 (ok l hl)).1
  have b := (ft_X1 (ok l' hl')).1
  exact (ij l 0 l' 0 hl (by omega) hl' (by omega) (by rw [e])).1
end
