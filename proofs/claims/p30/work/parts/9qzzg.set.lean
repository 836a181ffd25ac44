section
/-! settings of CELLS changed on the bench, CAUSES off or an HOUR asked in the reference: BEST POWER by both -/
def hd_SHs (g : Int → Int) (S : Int → Nat → Int) (q : Int) : Int := if g (28 * q + 19) = 0 then (S q 0 * (100 - S q 1) * (100 - S q 2)).tdiv 10000 else 0
def st_ok (g : Int → Int) (S : Int → Nat → Int) : Prop := ∀ q : Nat, (q : Int) < g 1198 → g (28 * (q : Int)) = 0 → ∀ a, a < 4 → 0 ≤ S q a ∧ S q a ≤ 100
def ax_s (g : Int → Int) (S : Int → Nat → Int) (p u : Int) : Int := bx_s g (hd_SHs g S) (fun q => S q 3) (hd_DI g) (cu_ln g (cu_in g p)) (cu_nl g (cu_in g p)) u
def ax_b0 (g : Int → Int) (S : Int → Nat → Int) (p : Int) : Nat := cu_b (fun u => ax_s g S p (u : Int)) 500
def ax_PW (g : Int → Int) (S : Int → Nat → Int) (p : Int) : Int := (ax_b0 g S p : Int) * ax_s g S p (ax_b0 g S p : Int)
theorem ax_PW_bd {g : Int → Int} {S : Int → Nat → Int} {p : Int} (h : cu_nl g (cu_in g p) ≤ 6) : 0 ≤ ax_PW g S p ∧ ax_PW g S p ≤ 1000000 := by
  have b : ax_b0 g S p ≤ 500 := cu_b_le _
  have s : 0 ≤ ax_s g S p (ax_b0 g S p : Int) ∧ ax_s g S p (ax_b0 g S p : Int) ≤ 600 := bx_s_bd h
  exact (bx_pw (u := (ax_b0 g S p : Int)) (z := ax_s g S p (ax_b0 g S p : Int)) ⟨by omega, by omega⟩ ⟨s.1, by omega⟩).2
theorem hd_bds {g : Int → Int} {S : Int → Nat → Int} (h : st_ok g S) : bx_bd g (hd_SHs g S) (fun q => S q 3) := by
  intro q hq hk
  refine ⟨?_, h q hq hk 3 (by decide)⟩
  unfold hd_SHs
  by_cases z : g (28 * (q : Int) + 19) = 0
  · rw [if_pos z]
    exact (bx_shv (h q hq hk 0 (by decide)) (h q hq hk 1 (by decide)) (h q hq hk 2 (by decide))).2
  · rw [if_neg z]
    decide
/-- a CELL of the bench, as it was told -/
def hd_rw (g : Int → Int) (N : EM) (j q : Nat) : Prop := N 174 j = q ∧ (q : Int) < g 1198 ∧ g (28 * (q : Int)) = 0 ∧ (∀ a : Nat, a < 4 → N 175 (4 * j + a) = g (28 * (q : Int) + 15 + (a : Int))) ∧ N 176 j = g (28 * (q : Int) + 19)
theorem hd_raw {g : Int → Int} {M N : EM} {X : Nat → Int} {L : Nat} (h40 : g 1198 ≤ 40) (hC : h_C M 0 g) (ok : ∀ l, l < L → bx_ok M g (X l)) (hS : bx_SP g M N X L) : ∀ j, j < bx_oc g X L → ∃ q, hd_rw g N j q := by
  intro j hj
  obtain ⟨l, k, h1, h2, h3, -⟩ := bx_fc_at L j hj
  have c := hS.2.2.2.2.1 l k h1 h2
  rw [← h3] at c
  have b := bx_ok_ce h40 (ok l h1) h2
  obtain ⟨z, z1, z2, z3⟩ := ok l h1
  obtain ⟨q, hq⟩ : ∃ q : Nat, bx_ce g (X l) k = q := ⟨(bx_ce g (X l) k).toNat, by omega⟩
  rw [hq, Int.toNat_natCast] at c
  have qq : (q : Int) < g 1198 ∧ g (28 * (q : Int)) = 0 := by
    rcases z3 with z3 | ⟨z3, n, gr, ⟨-, b1, -, b3, -, -, b6⟩⟩
    · have e : bx_ce g (X l) k = X l := if_pos (by rw [z1]; exact z3)
      rw [← hq, e, z1]
      exact ⟨z2, z3⟩
    · have kn : ¬ g (28 * X l) = 0 := by rw [z1]; omega
      have en : bx_nc g (X l) = n := by
        unfold bx_nc
        rw [if_neg kn, z1, b1, Int.toNat_natCast]
      obtain ⟨⟨m1, m2, m3, -, -⟩, c2, -⟩ := b6 k (by omega)
      have e : bx_ce g (X l) k = g (28 * X l + 3 + (k : Int)) := if_neg kn
      rw [← hq, e, z1]
      exact ⟨by omega, c2⟩
  obtain ⟨d1, d2, d3, d4⟩ := c
  obtain ⟨c1, c2, -⟩ := hC q qq.1 qq.2
  exact ⟨q, d1, qq.1, qq.2, fun a ha => (d4 a ha).trans (c1 a ha).1, d3.trans c2.1⟩
theorem hd_kn2 {g : Int → Int} {S : Int → Nat → Int} {N N' : EM} {j q : Nat} (hS : st_ok g S) (h : hd_rw g N j q) (h1 : ∀ a, a < 4 → N' 175 (4 * j + a) = S q a) (h2 : ∀ id k, id ≠ 175 → N' id k = N id k) : bx_kn g (hd_SHs g S) (fun q => S q 3) N' j := by
  obtain ⟨d1, d2, d3, d4, d5⟩ := h
  have b := hS q d2 d3
  have a0 := h1 0 (by decide)
  rw [Nat.add_zero] at a0
  refine ⟨q, (h2 _ _ (by decide)).trans d1, d2, d3, fun a ha => by rw [h1 a ha]; exact b a ha, ?_, h1 3 (by decide)⟩
  unfold bx_sh hd_SHs
  rw [(h2 _ _ (by decide)).trans d5, a0, h1 1 (by decide), h1 2 (by decide)]
/-- the class: spread, settings changed, BEST -/
theorem ax_sp {M : EM} {p : Nat} (h : hd_all M) (hp : (p : Int) < r_G M 1198) : ∃ N, E_C 1 [170, (p : Int)] M = some (0, N) ∧ N 170 0 = (ax_nc (r_G M) (p : Int) : Int) ∧ ax_nc (r_G M) (p : Int) ≤ 40 ∧ (∀ j, j < ax_nc (r_G M) (p : Int) → ∃ q, hd_rw (r_G M) N j q) ∧ (∀ id k, ¬ (170 ≤ id ∧ id ≤ 176) → N id k = M id k) ∧ N 171 0 = 0 ∧ ∀ S N', st_ok (r_G M) S → (∀ j q, j < ax_nc (r_G M) (p : Int) → hd_rw (r_G M) N j q → ∀ a, a < 4 → N' 175 (4 * j + a) = S q a) → (∀ id k, id ≠ 175 → N' id k = N id k) → ∃ M', E_C 21 [170] N' = some (0, M') ∧ M' 170 1 = ax_PW (r_G M) S (p : Int) ∧ M' 171 0 = 0 ∧ ∀ id k, ¬ (170 ≤ id ∧ id ≤ 181) → M' id k = M id k := by
  obtain ⟨N, k, hX, hS, hN, h7, e, h0⟩ := ax_1 h hp
  obtain ⟨hB, hC, hD, h171⟩ := h
  have h40 := hB.2.1.2
  have raw := hd_raw h40 hC hX.2.1 hS
  have fr := hS.2.2.2.2.2.2.2.1
  refine ⟨N, k, hN.2.1, hX.2.2.1, raw, fr, h0, fun S N' hs h1 h2 => ?_⟩
  obtain ⟨n1, n2, n3, n4, n5, n6⟩ := hN
  have hN' : bx_ND (r_G M) (hd_SHs (r_G M) S) (fun q => S q 3) (hd_DI (r_G M)) (cu_ln (r_G M) (cu_in (r_G M) (p : Int))) (cu_nl (r_G M) (cu_in (r_G M) (p : Int))) N' := by
    refine ⟨fun j hj => ?_, (h2 _ _ (by decide)).trans n2, (h2 _ _ (by decide)).trans n3, fun l hl => (h2 _ _ (by decide)).trans (n4 l hl), fun l k hl hk => ?_, fun l y hl hy => (h2 _ _ (by decide)).trans (n6 l y hl hy)⟩
    · obtain ⟨q, hq⟩ := raw j hj
      exact hd_kn2 hs hq (h1 j q hj hq) h2
    · rw [h2 _ _ (by decide), h2 _ _ (by decide)]
      exact n5 l k hl hk
  obtain ⟨M', m, m6, ms, m2, m1, mf⟩ := bx_21 h40 hD (fun id hid => funext fun k => (h2 _ _ (by omega)).trans (congrFun (e id hid) k)) (hd_bds hs) hX hN'
  exact ⟨M', m, m1, (mf _ _ (by decide) (by omega)).trans ((h2 _ _ (by decide)).trans h0), fun id k hid => (mf _ _ (by omega) (by omega)).trans ((h2 _ _ (by omega)).trans (fr _ _ (by omega)))⟩
/-- nothing that is told has changed -/
theorem hd_all_fr {M M' : EM} (h : hd_all M) (f : ∀ id k, ¬ (170 ≤ id ∧ id ≤ 191) → M' id k = M id k) (h0 : M' 171 0 = 0) : hd_all M' := by
  obtain ⟨hB, hC, hD, -⟩ := h
  have eG : r_G M' = r_G M := funext fun i => f _ _ (by decide)
  have e : ∀ id, id < 162 → M' id = M id := fun id hid => funext fun k => f _ _ (by omega)
  unfold hd_all
  rw [eG]
  refine ⟨?_, ?_, fun q hq => ?_, h0⟩
  · unfold h_B
    rw [e (10 + 0) (by decide), e (11 + 0) (by decide), e (13 + 0) (by decide)]
    exact hB
  · intro q hq
    unfold h_Cq
    rw [e (21 + 0) (by decide), e (22 + 0) (by decide), e (23 + 0) (by decide), e (24 + 0) (by decide)]
    exact hC q hq
  · have q40 : q < 40 := by have := hB.2.1.2; omega
    refine hd_q_cg (hD q hq) ⟨rfl, rfl, fun _ _ _ _ _ => rfl⟩ (fun _ _ _ => ⟨rfl, fun _ => rfl⟩) ⟨?_, ?_, fun k _ => ⟨?_, ?_, ?_⟩, fun i _ => ⟨?_, ?_⟩, fun k _ => ?_⟩
    · rw [e (12 + 0) (by decide)]
    · rw [e (14 + 0) (by decide)]
    · rw [e (15 + 0) (by decide)]
    · rw [e (16 + 0) (by decide)]
    · rw [e (17 + 0) (by decide)]
    · rw [e (19 + 0) (by decide)]
    · rw [e (20 + 0) (by decide)]
    · rw [e (37 + 0 + q) (by omega)]
/-- the reference: BEST POWER, however it is asked -/
theorem rx_209 {M : EM} {g : Int → Int} {S : Int → Nat → Int} {p : Int} (hG : r_G M = g) (hW : r_W g) (hm : rx_MD M (hd_SHs g S) (fun q => S q 3) (hd_DI g)) (hcv : hd_cvs g) (hp : 0 ≤ p ∧ p < g 1198) (h6 : cu_nl g (cu_in g p) ≤ 6) : ∃ M', E_C 209 [192, p] M = some (ax_PW g S p, M') ∧ rx_sm M M' := by
  obtain ⟨M', k, sm, hs⟩ := rx_gives hG hm hcv (b := g 1198) hW.2.1 (Int.le_refl _) (hW.2.2.1 p hp.1 hp.2)
  have hs : ∀ u : Nat, u < 1000 → M' 205 u = ax_s g S p (u : Int) := hs
  have sb : ∀ u : Int, 0 ≤ ax_s g S p u ∧ ax_s g S p u ≤ 600 := fun u => bx_s_bd h6
  have bo := rx_208 (M := M') (s := fun u => ax_s g S p (u : Int)) (fun u hu => hs u (by omega)) (fun u _ => ⟨(sb u).1, by have := (sb u).2; omega⟩)
  have bl : ax_b0 g S p ≤ 500 := cu_b_le _
  have bo' : E_C 208 [192] M' = some ((ax_b0 g S p : Int), M') := bo
  have l1 : e_op 60 [205, (ax_b0 g S p : Int)] M' = some (ax_s g S p (ax_b0 g S p : Int)) := (r_rd5 (by omega) (by omega)).trans (by rw [Int.toNat_natCast, hs _ (by omega)])
  have pw := (bx_pw (u := (ax_b0 g S p : Int)) (z := ax_s g S p (ax_b0 g S p : Int)) ⟨by omega, by omega⟩ ⟨(sb _).1, by have := (sb (ax_b0 g S p : Int)).2; omega⟩).1
  refine ⟨M', ?_, sm⟩
  unfold ax_PW
  clear hs sb bo bl
  generalize ax_s g S p (ax_b0 g S p : Int) = z at *
  generalize (ax_b0 g S p : Int) = b at *
  rw [r_ent (show e_rok 209 [192, p] = true from decide_eq_true r_ref)]
  show e_tv E_C (E_V 209) e_t209_0 [192, p, 0] M = _
  unfold e_t209_0
  simp [zq_a, zq_b, zq_c, zq_d, zq_e, zq_f, zq_g, zq_h, zq_i, zq_j, zq_k, zq_l, zq_m, zq_n, zq_o, zq_p, zq_q, zq_r, zq_s, zq_t, zq_u, zq_v, zq_w, zq_x, zq_y, zq_z, zq_A, zq_B, zq_C, zq_D, zq_E, zq_F, zq_G, zq_H, zq_I, zq_J, zq_K, zq_L, ↓zq_M, ↓zq_N, ↓zq_O, ↓zq_P, ↓zq_Q, ↓zq_R, zq_S, zq_T, zq_U, zq_V, zq_W, zq_X, zq_Y, zq_Z, zq_0, zq_1, zq_2, zq_3, zq_4, zq_5, ↓zq_6, ↓zq_7, ↓zq_8, ↓zq_9, ↓zq_aa, zq_ab, zq_ac, zq_ad, zq_ae, zq_af, zq_ag, ↓zq_ah, ↓zq_ai, ↓zq_aj, zq_ak, ↓zq_al, ↓zq_am, e_b1, e_b2, x_o1, x_o2, r_O25, k, bo', l1, pw]
/-- DIODES, whatever CAUSES are off -/
theorem rx_diK {M : EM} {q : Int} {y : Nat} (k24 : M 192 24 = -1) (hq : 0 ≤ q ∧ q < 40) (hy : y < 8) : E_C 200 [192, q, (y : Int)] M = some (hd_DI (r_G M) q y, M) := by
  obtain ⟨yy, hyy⟩ : ∃ yy : Int, (y : Int) = yy := ⟨_, rfl⟩
  unfold hd_DI
  rw [hyy]
  have y0 : 0 ≤ yy ∧ yy < 8 := by omega
  have l1 : e_op 60 [193, 28 * q + 20 + yy] M = some (r_G M (28 * q + 20 + yy)) := r_rd (by omega) (by omega)
  have c2 : ¬ (-1 = 8 * q + yy) := by omega
  have w1 : e_w (28 * q) = 28 * q := a_w_id (by omega) (by omega)
  have w2 : e_w (28 * q + 20) = 28 * q + 20 := a_w_id (by omega) (by omega)
  have w3 : e_w (28 * q + 20 + yy) = 28 * q + 20 + yy := a_w_id (by omega) (by omega)
  have w4 : e_w (8 * q) = 8 * q := a_w_id (by omega) (by omega)
  have w5 : e_w (8 * q + yy) = 8 * q + yy := a_w_id (by omega) (by omega)
  by_cases c1 : r_G M (28 * q + 20 + yy) = 1
  · rw [if_pos c1]
    rw [c1] at l1
    rw [r_ent (show e_rok 200 [192, q, yy] = true from decide_eq_true r_ref)]
    show e_tv E_C (E_V 200) e_t200_0 [192, q, yy] M = _
    unfold e_t200_0
    simp [zq_a, zq_b, zq_c, zq_d, zq_e, zq_f, zq_g, zq_h, zq_i, zq_j, zq_k, zq_l, zq_m, zq_n, zq_o, zq_p, zq_q, zq_r, zq_s, zq_t, zq_u, zq_v, zq_w, zq_x, zq_y, zq_z, zq_A, zq_B, zq_C, zq_D, zq_E, zq_F, zq_G, zq_H, zq_I, zq_J, zq_K, zq_L, ↓zq_M, ↓zq_N, ↓zq_O, ↓zq_P, ↓zq_Q, ↓zq_R, zq_S, zq_T, zq_U, zq_V, zq_W, zq_X, zq_Y, zq_Z, zq_0, zq_1, zq_2, zq_3, zq_4, zq_5, ↓zq_6, ↓zq_7, ↓zq_8, ↓zq_9, ↓zq_aa, zq_ab, zq_ac, zq_ad, zq_ae, zq_af, zq_ag, ↓zq_ah, ↓zq_ai, ↓zq_aj, zq_ak, ↓zq_al, ↓zq_am, e_b1, e_b2, x_o1, x_o2, r_O0, r_F24, k24, w1, w2, w3, w4, w5, l1, c2]
  · rw [if_neg c1]
    rw [r_ent (show e_rok 200 [192, q, yy] = true from decide_eq_true r_ref)]
    show e_tv E_C (E_V 200) e_t200_0 [192, q, yy] M = _
    unfold e_t200_0
    simp [zq_a, zq_b, zq_c, zq_d, zq_e, zq_f, zq_g, zq_h, zq_i, zq_j, zq_k, zq_l, zq_m, zq_n, zq_o, zq_p, zq_q, zq_r, zq_s, zq_t, zq_u, zq_v, zq_w, zq_x, zq_y, zq_z, zq_A, zq_B, zq_C, zq_D, zq_E, zq_F, zq_G, zq_H, zq_I, zq_J, zq_K, zq_L, ↓zq_M, ↓zq_N, ↓zq_O, ↓zq_P, ↓zq_Q, ↓zq_R, zq_S, zq_T, zq_U, zq_V, zq_W, zq_X, zq_Y, zq_Z, zq_0, zq_1, zq_2, zq_3, zq_4, zq_5, ↓zq_6, ↓zq_7, ↓zq_8, ↓zq_9, ↓zq_aa, zq_ab, zq_ac, zq_ad, zq_ae, zq_af, zq_ag, ↓zq_ah, ↓zq_ai, ↓zq_aj, zq_ak, ↓zq_al, ↓zq_am, e_b1, e_b2, x_o1, x_o2, r_O0, w1, w2, w3, l1, c1]
theorem hd_DI_01 {g : Int → Int} {q : Int} {y : Nat} : hd_DI g q y = 0 ∨ hd_DI g q y = 1 := by
  unfold hd_DI
  by_cases c : g (28 * q + 20 + (y : Int)) = 1
  · rw [if_pos c]; exact Or.inr rfl
  · rw [if_neg c]; exact Or.inl rfl
end
section
/-! without: CAUSES taken off by class and reference -/
def wo_b (o a : Nat) : Bool := o / 2 ^ a % 2 == 1
def wo_S (g : Int → Int) (o : Nat) (q : Int) (a : Nat) : Int := if wo_b o a = true then (if a = 0 then 100 else 0) else g (28 * q + 15 + (a : Int))
theorem wo_bit : ∀ o : Nat, o < 16 → ∀ a : Nat, a < 4 → e_bit (fun x y => x &&& y) (e_bit (fun x y => x >>> (y &&& 31)) (o : Int) (a : Int)) 1 = if wo_b o a = true then 1 else 0 := by decide +kernel
theorem wo_r0 : ∀ o : Nat, o < 16 → e_bit (fun x y => x &&& y) (o : Int) 1 = if wo_b o 0 = true then 1 else 0 := by decide +kernel
theorem wo_r1 : ∀ o : Nat, o < 16 → e_bit (fun x y => x &&& y) (o : Int) 2 = if wo_b o 1 = true then 2 else 0 := by decide +kernel
theorem wo_r2 : ∀ o : Nat, o < 16 → e_bit (fun x y => x &&& y) (o : Int) 4 = if wo_b o 2 = true then 4 else 0 := by decide +kernel
theorem wo_r3 : ∀ o : Nat, o < 16 → e_bit (fun x y => x &&& y) (o : Int) 8 = if wo_b o 3 = true then 8 else 0 := by decide +kernel
theorem wo_ok {g : Int → Int} {o : Nat} (hcs : hd_cs g) : st_ok g (wo_S g o) := by
  intro q h1 h2 a ha
  have c := (hcs q (by omega) h1 h2).1 a ha
  unfold wo_S
  by_cases b : wo_b o a = true
  · rw [if_pos b]
    by_cases a0 : a = 0
    · rw [if_pos a0]; decide
    · rw [if_neg a0]; decide
  · rw [if_neg b]; exact c
section WO
variable {M : EM}
def wo_v (o : Nat) (i : Nat) (v : Int) : Int := if wo_b o (i % 4) = true then (if i % 4 = 0 then 100 else 0) else v
/-- the class takes CAUSES off -/
theorem wo_7 {n o : Nat} {oi : Int} (ho : o < 16) (hoi : oi = o) (hn : M 170 0 = n) (hn40 : n ≤ 40) : ∃ M', E_C 7 [170, oi] M = some (0, M') ∧ (∀ i, i < 4 * n → M' 175 i = wo_v o i (M 175 i)) ∧ ∀ id k, id ≠ 175 → M' id k = M id k := by
  have lp : ∀ (d i : Nat) (x2 x3 : Int) (N : EM), x2 = i → i + d = 4 * n → (∀ j, j < i → N 175 j = wo_v o j (M 175 j)) → (∀ j, i ≤ j → N 175 j = M 175 j) → (∀ id k, id ≠ 175 → N id k = M id k) → ∃ M', E_V 7 2 [170, oi, x2, x3] N = some (0, M') ∧ (∀ i, i < 4 * n → M' 175 i = wo_v o i (M 175 i)) ∧ ∀ id k, id ≠ 175 → M' id k = M id k := by
    intro d
    induction d with
    | zero =>
      intro i x2 x3 N hx hi h1 h2 h3
      have z : N 170 0 = n := (h3 _ _ (by decide)).trans hn
      obtain ⟨nn, hnn⟩ : ∃ nn : Int, (n : Int) = nn := ⟨_, rfl⟩
      rw [hnn] at z
      have w1 : e_w (nn * 4) = nn * 4 := a_w_id (by omega) (by omega)
      have q : ¬ (x2 < nn * 4) := by omega
      refine ⟨N, ?_, fun j hj => h1 j (by omega), h3⟩
      clear h1 h2 h3
      rw [E_V_eq]
      show e_tv E_C (E_V 7) e_t7_2 [170, oi, x2, x3] N = _
      unfold e_t7_2
      simp [zq_a, zq_b, zq_c, zq_d, zq_e, zq_f, zq_g, zq_h, zq_i, zq_j, zq_k, zq_l, zq_m, zq_n, zq_o, zq_p, zq_q, zq_r, zq_s, zq_t, zq_u, zq_v, zq_w, zq_x, zq_y, zq_z, zq_A, zq_B, zq_C, zq_D, zq_E, zq_F, zq_G, zq_H, zq_I, zq_J, zq_K, zq_L, ↓zq_M, ↓zq_N, ↓zq_O, ↓zq_P, ↓zq_Q, ↓zq_R, zq_S, zq_T, zq_U, zq_V, zq_W, zq_X, zq_Y, zq_Z, zq_0, zq_1, zq_2, zq_3, zq_4, zq_5, ↓zq_6, ↓zq_7, ↓zq_8, ↓zq_9, ↓zq_aa, zq_ab, zq_ac, zq_ad, zq_ae, zq_af, zq_ag, ↓zq_ah, ↓zq_ai, ↓zq_aj, zq_ak, ↓zq_al, ↓zq_am, e_b1, e_b2, x_o1, x_o2, bx_F0, z, w1, q]
    | succ d ih =>
      intro i x2 x3 N hx hi h1 h2 h3
      have z : N 170 0 = n := (h3 _ _ (by decide)).trans hn
      obtain ⟨nn, hnn⟩ : ∃ nn : Int, (n : Int) = nn := ⟨_, rfl⟩
      rw [hnn] at z
      have w1 : e_w (nn * 4) = nn * 4 := a_w_id (by omega) (by omega)
      have w2 : e_w (x2 + 1) = x2 + 1 := a_w_id (by omega) (by omega)
      have q : x2 < nn * 4 := by omega
      obtain ⟨c, hc⟩ : ∃ c : Nat, i % 4 = c := ⟨_, rfl⟩
      have c4 : c < 4 := by omega
      have tm : x2.tmod 4 = (c : Int) := by
        rw [Int.tmod_eq_emod_of_nonneg (by omega)]
        omega
      have bt := wo_bit o ho c c4
      rw [← hoi] at bt
      have s42 : ∀ y N, E_V 7 42 [170, oi, x2, y] N = E_V 7 2 [170, oi, x2 + 1, y] N := fun y N => by
        rw [E_V_eq]
        show e_tv E_C (E_V 7) e_t7_42 [170, oi, x2, y] N = _
        unfold e_t7_42
        simp [zq_a, zq_b, zq_c, zq_d, zq_e, zq_f, zq_g, zq_h, zq_i, zq_j, zq_k, zq_l, zq_m, zq_n, zq_o, zq_p, zq_q, zq_r, zq_s, zq_t, zq_u, zq_v, zq_w, zq_x, zq_y, zq_z, zq_A, zq_B, zq_C, zq_D, zq_E, zq_F, zq_G, zq_H, zq_I, zq_J, zq_K, zq_L, ↓zq_M, ↓zq_N, ↓zq_O, ↓zq_P, ↓zq_Q, ↓zq_R, zq_S, zq_T, zq_U, zq_V, zq_W, zq_X, zq_Y, zq_Z, zq_0, zq_1, zq_2, zq_3, zq_4, zq_5, ↓zq_6, ↓zq_7, ↓zq_8, ↓zq_9, ↓zq_aa, zq_ab, zq_ac, zq_ad, zq_ae, zq_af, zq_ag, ↓zq_ah, ↓zq_ai, ↓zq_aj, zq_ak, ↓zq_al, ↓zq_am, e_b1, e_b2, x_o1, x_o2, w2]
      by_cases b : wo_b o c = true
      · have l1 : ∀ v, E_C 147 [175, x2, v] N = some (0, e_up N 175 i v) := fun v => w_layN (a := 175) (n := 160) (by decide +kernel) (j := i) hx (by omega) v N
        rw [if_pos b] at bt
        have vv : ∀ v, wo_v o i v = if c = 0 then 100 else 0 := fun v => by
          unfold wo_v
          rw [hc, if_pos b]
        obtain ⟨M', k, k1, k2⟩ := ih (i + 1) (x2 + 1) (c : Int) (e_up N 175 i (if c = 0 then 100 else 0)) (by omega) (by omega) (fun j hj => by
          by_cases e : j = i
          · rw [e, c_up_s, vv]
          · rw [c_up_n (by omega)]
            exact h1 j (by omega)) (fun j hj => by rw [c_up_n (by omega)]; exact h2 j (by omega)) (fun id k hid => by rw [c_up_n (by omega)]; exact h3 id k hid)
        refine ⟨M', ?_, k1, k2⟩
        rw [← k, ← s42]
        clear ih h1 h2 h3 k k1 k2 s42 vv hc
        by_cases c0 : c = 0
        · subst c0
          rw [if_pos rfl]
          have tm : x2.tmod 4 = 0 := tm
          have bt : e_bit (fun x y => x &&& y) (e_bit (fun x y => x >>> (y &&& 31)) oi 0) 1 = 1 := bt
          show _ = E_V 7 42 [170, oi, x2, 0] _
          rw [E_V_eq]
          show e_tv E_C (E_V 7) e_t7_2 [170, oi, x2, x3] N = _
          unfold e_t7_2
          simp [zq_a, zq_b, zq_c, zq_d, zq_e, zq_f, zq_g, zq_h, zq_i, zq_j, zq_k, zq_l, zq_m, zq_n, zq_o, zq_p, zq_q, zq_r, zq_s, zq_t, zq_u, zq_v, zq_w, zq_x, zq_y, zq_z, zq_A, zq_B, zq_C, zq_D, zq_E, zq_F, zq_G, zq_H, zq_I, zq_J, zq_K, zq_L, ↓zq_M, ↓zq_N, ↓zq_O, ↓zq_P, ↓zq_Q, ↓zq_R, zq_S, zq_T, zq_U, zq_V, zq_W, zq_X, zq_Y, zq_Z, zq_0, zq_1, zq_2, zq_3, zq_4, zq_5, ↓zq_6, ↓zq_7, ↓zq_8, ↓zq_9, ↓zq_aa, zq_ab, zq_ac, zq_ad, zq_ae, zq_af, zq_ag, ↓zq_ah, ↓zq_ai, ↓zq_aj, zq_ak, ↓zq_al, ↓zq_am, e_b1, e_b2, x_o1, x_o2, bx_F0, bx_Gc, z, w1, q, tm, bt, l1]
        · rw [if_neg c0]
          have cn : ¬ ((c : Int) = 0) := by omega
          generalize (c : Int) = cc at *
          rw [E_V_eq]
          show e_tv E_C (E_V 7) e_t7_2 [170, oi, x2, x3] N = _
          unfold e_t7_2
          simp [zq_a, zq_b, zq_c, zq_d, zq_e, zq_f, zq_g, zq_h, zq_i, zq_j, zq_k, zq_l, zq_m, zq_n, zq_o, zq_p, zq_q, zq_r, zq_s, zq_t, zq_u, zq_v, zq_w, zq_x, zq_y, zq_z, zq_A, zq_B, zq_C, zq_D, zq_E, zq_F, zq_G, zq_H, zq_I, zq_J, zq_K, zq_L, ↓zq_M, ↓zq_N, ↓zq_O, ↓zq_P, ↓zq_Q, ↓zq_R, zq_S, zq_T, zq_U, zq_V, zq_W, zq_X, zq_Y, zq_Z, zq_0, zq_1, zq_2, zq_3, zq_4, zq_5, ↓zq_6, ↓zq_7, ↓zq_8, ↓zq_9, ↓zq_aa, zq_ab, zq_ac, zq_ad, zq_ae, zq_af, zq_ag, ↓zq_ah, ↓zq_ai, ↓zq_aj, zq_ak, ↓zq_al, ↓zq_am, e_b1, e_b2, x_o1, x_o2, bx_F0, bx_Gc, z, w1, q, tm, bt, l1, cn]
      · rw [if_neg b] at bt
        have vv : ∀ v, wo_v o i v = v := fun v => by
          unfold wo_v
          rw [hc, if_neg b]
        obtain ⟨M', k, k1, k2⟩ := ih (i + 1) (x2 + 1) (c : Int) N (by omega) (by omega) (fun j hj => by
          by_cases e : j = i
          · rw [e, vv]
            exact h2 i (Nat.le_refl _)
          · exact h1 j (by omega)) (fun j hj => h2 j (by omega)) h3
        refine ⟨M', ?_, k1, k2⟩
        rw [← k, ← s42]
        clear ih h1 h2 h3 k k1 k2 s42 vv hc
        generalize (c : Int) = cc at *
        rw [E_V_eq]
        show e_tv E_C (E_V 7) e_t7_2 [170, oi, x2, x3] N = _
        unfold e_t7_2
        simp [zq_a, zq_b, zq_c, zq_d, zq_e, zq_f, zq_g, zq_h, zq_i, zq_j, zq_k, zq_l, zq_m, zq_n, zq_o, zq_p, zq_q, zq_r, zq_s, zq_t, zq_u, zq_v, zq_w, zq_x, zq_y, zq_z, zq_A, zq_B, zq_C, zq_D, zq_E, zq_F, zq_G, zq_H, zq_I, zq_J, zq_K, zq_L, ↓zq_M, ↓zq_N, ↓zq_O, ↓zq_P, ↓zq_Q, ↓zq_R, zq_S, zq_T, zq_U, zq_V, zq_W, zq_X, zq_Y, zq_Z, zq_0, zq_1, zq_2, zq_3, zq_4, zq_5, ↓zq_6, ↓zq_7, ↓zq_8, ↓zq_9, ↓zq_aa, zq_ab, zq_ac, zq_ad, zq_ae, zq_af, zq_ag, ↓zq_ah, ↓zq_ai, ↓zq_aj, zq_ak, ↓zq_al, ↓zq_am, e_b1, e_b2, x_o1, x_o2, bx_F0, z, w1, q, tm, bt]
  obtain ⟨M', k, kk⟩ := lp (4 * n) 0 0 0 M rfl (by omega) (fun j h => absurd h (Nat.not_lt_zero _)) (fun _ _ => rfl) (fun _ _ _ => rfl)
  refine ⟨M', ?_, kk⟩
  rw [r_ent (show e_rok 7 [170, oi] = true from bx_r (M := M) rfl (by decide +kernel))]
  show e_tv E_C (E_V 7) e_t7_0 [170, oi, 0, 0] M = _
  unfold e_t7_0
  simp [zq_a, zq_b, zq_c, zq_d, zq_e, zq_f, zq_g, zq_h, zq_i, zq_j, zq_k, zq_l, zq_m, zq_n, zq_o, zq_p, zq_q, zq_r, zq_s, zq_t, zq_u, zq_v, zq_w, zq_x, zq_y, zq_z, zq_A, zq_B, zq_C, zq_D, zq_E, zq_F, zq_G, zq_H, zq_I, zq_J, zq_K, zq_L, ↓zq_M, ↓zq_N, ↓zq_O, ↓zq_P, ↓zq_Q, ↓zq_R, zq_S, zq_T, zq_U, zq_V, zq_W, zq_X, zq_Y, zq_Z, zq_0, zq_1, zq_2, zq_3, zq_4, zq_5, ↓zq_6, ↓zq_7, ↓zq_8, ↓zq_9, ↓zq_aa, zq_ab, zq_ac, zq_ad, zq_ae, zq_af, zq_ag, ↓zq_ah, ↓zq_ai, ↓zq_aj, zq_ak, ↓zq_al, ↓zq_am, e_b1, e_b2, x_o1, x_o2, k]
/-- the class: WITHOUT -/
theorem ax_160 {p o : Nat} {oi : Int} (h : hd_all M) (hp : (p : Int) < r_G M 1198) (ho : o < 16) (hoi : oi = o) : ∃ M', E_C 160 [8, (p : Int), oi] M = some (ax_PW (r_G M) (wo_S (r_G M) o) (p : Int), M') ∧ M' 171 0 = 0 ∧ ∀ id k, ¬ (170 ≤ id ∧ id ≤ 181) → M' id k = M id k := by
  obtain ⟨N, k, n0, n40, raw, fr, h0, go⟩ := ax_sp h hp
  obtain ⟨N', k7, v7, f7⟩ := wo_7 (M := N) ho hoi n0 n40
  obtain ⟨M', k21, m1, m0, mf⟩ := go (wo_S (r_G M) o) N' (wo_ok (hd_cs_of h.2.1)) (fun j q hj hq a ha => by
    rw [v7 (4 * j + a) (by omega)]
    unfold wo_v wo_S
    rw [show (4 * j + a) % 4 = a by omega, hq.2.2.2.1 a ha]) f7
  refine ⟨M', ?_, m0, mf⟩
  clear mf m0 f7 v7 go fr raw n0 h0
  generalize ax_PW (r_G M) (wo_S (r_G M) o) (p : Int) = z at *
  generalize (p : Int) = pp at *
  have s0 : E_C 160 [8, pp, oi] M = e_tv E_C (E_V 160) e_t160_0 [8, pp, oi] M := r_ent (u := 160) (as := [8, pp, oi]) (M := M) (decide_eq_true c_this)
  rw [s0]
  unfold e_t160_0
  simp [zq_a, zq_b, zq_c, zq_d, zq_e, zq_f, zq_g, zq_h, zq_i, zq_j, zq_k, zq_l, zq_m, zq_n, zq_o, zq_p, zq_q, zq_r, zq_s, zq_t, zq_u, zq_v, zq_w, zq_x, zq_y, zq_z, zq_A, zq_B, zq_C, zq_D, zq_E, zq_F, zq_G, zq_H, zq_I, zq_J, zq_K, zq_L, ↓zq_M, ↓zq_N, ↓zq_O, ↓zq_P, ↓zq_Q, ↓zq_R, zq_S, zq_T, zq_U, zq_V, zq_W, zq_X, zq_Y, zq_Z, zq_0, zq_1, zq_2, zq_3, zq_4, zq_5, ↓zq_6, ↓zq_7, ↓zq_8, ↓zq_9, ↓zq_aa, zq_ab, zq_ac, zq_ad, zq_ae, zq_af, zq_ag, ↓zq_ah, ↓zq_ai, ↓zq_aj, zq_ak, ↓zq_al, ↓zq_am, e_b1, e_b2, x_o1, x_o2, ax_bench, k, k7, k21, bx_F1, m1]
/-- the reference: SHARE with CAUSES off -/
theorem rx_sho {o : Nat} {q : Int} (ho : o < 16) (k22 : M 192 22 = o) (k23 : M 192 23 = -1) (h20 : M 192 20 = -1) (hq : 0 ≤ q ∧ q < 40) (hS : ∀ a, a < 4 → 0 ≤ wo_S (r_G M) o q a ∧ wo_S (r_G M) o q a ≤ 100) (hd : r_G M (28 * q + 19) = 0 ∨ r_G M (28 * q + 19) = 1) : E_C 192 [192, q] M = some (hd_SHs (r_G M) (wo_S (r_G M) o) q, M) := by
  have a0 := hS 0 (by decide)
  have a1 := hS 1 (by decide)
  have a2 := hS 2 (by decide)
  obtain ⟨z1, z2⟩ := bx_shv a0 a1 a2
  have l0 : e_op 60 [193, 28 * q + 15] M = some (r_G M (28 * q + 15)) := r_rd (by omega) (by omega)
  have l1 : e_op 60 [193, 28 * q + 15 + 4] M = some (r_G M (28 * q + 19)) := (r_rd (by omega) (by omega)).trans (by rw [show 28 * q + 15 + 4 = 28 * q + 19 by omega])
  have l2 : e_op 60 [193, 28 * q + 15 + 1] M = some (r_G M (28 * q + 15 + 1)) := r_rd (by omega) (by omega)
  have l3 : e_op 60 [193, 28 * q + 15 + 2] M = some (r_G M (28 * q + 15 + 2)) := r_rd (by omega) (by omega)
  have b1 := wo_r0 o ho
  have b2 := wo_r1 o ho
  have b4 := wo_r2 o ho
  have q1 : ¬ (-1 = q) := by omega
  have w1 : e_w (28 * q) = 28 * q := a_w_id (by omega) (by omega)
  have w2 : e_w (28 * q + 15) = 28 * q + 15 := a_w_id (by omega) (by omega)
  have w3 : e_w (28 * q + 15 + 4) = 28 * q + 15 + 4 := a_w_id (by omega) (by omega)
  have w4 : e_w (28 * q + 15 + 1) = 28 * q + 15 + 1 := a_w_id (by omega) (by omega)
  have w5 : e_w (28 * q + 15 + 2) = 28 * q + 15 + 2 := a_w_id (by omega) (by omega)
  have v0 : wo_S (r_G M) o q 0 = if wo_b o 0 = true then 100 else r_G M (28 * q + 15) := by
    unfold wo_S
    rw [if_pos (show (0 : Nat) = 0 from rfl), show 28 * q + 15 + ((0 : Nat) : Int) = 28 * q + 15 by omega]
  have v1 : wo_S (r_G M) o q 1 = if wo_b o 1 = true then 0 else r_G M (28 * q + 15 + 1) := by
    unfold wo_S
    rw [if_neg (show ¬ (1 : Nat) = 0 by decide)]
    rfl
  have v2 : wo_S (r_G M) o q 2 = if wo_b o 2 = true then 0 else r_G M (28 * q + 15 + 2) := by
    unfold wo_S
    rw [if_neg (show ¬ (2 : Nat) = 0 by decide)]
    rfl
  unfold hd_SHs
  rcases hd with hd | hd
  · rw [hd] at l1
    rw [if_pos hd, ← z1]
    generalize wo_S (r_G M) o q 0 = s0 at *
    generalize wo_S (r_G M) o q 1 = s1 at *
    generalize wo_S (r_G M) o q 2 = s2 at *
    generalize r_G M (28 * q + 15) = g0 at *
    generalize r_G M (28 * q + 15 + 1) = g1 at *
    generalize r_G M (28 * q + 15 + 2) = g2 at *
    clear hS z1 z2 a0 a1 a2
    generalize (o : Int) = oi at *
    have e0 : (e_bit (fun x y => x &&& y) oi 1 = 1 ∧ s0 = 100) ∨ (e_bit (fun x y => x &&& y) oi 1 = 0 ∧ s0 = g0) := by
      by_cases c : wo_b o 0 = true
      · rw [if_pos c] at b1 v0; exact Or.inl ⟨b1, v0⟩
      · rw [if_neg c] at b1 v0; exact Or.inr ⟨b1, v0⟩
    have e1 : (e_bit (fun x y => x &&& y) oi 2 = 2 ∧ s1 = 0) ∨ (e_bit (fun x y => x &&& y) oi 2 = 0 ∧ s1 = g1) := by
      by_cases c : wo_b o 1 = true
      · rw [if_pos c] at b2 v1; exact Or.inl ⟨b2, v1⟩
      · rw [if_neg c] at b2 v1; exact Or.inr ⟨b2, v1⟩
    have e2 : (e_bit (fun x y => x &&& y) oi 4 = 4 ∧ s2 = 0) ∨ (e_bit (fun x y => x &&& y) oi 4 = 0 ∧ s2 = g2) := by
      by_cases c : wo_b o 2 = true
      · rw [if_pos c] at b4 v2; exact Or.inl ⟨b4, v2⟩
      · rw [if_neg c] at b4 v2; exact Or.inr ⟨b4, v2⟩
    clear b1 b2 b4 v0 v1 v2 ho hd
    rcases e0 with ⟨b1, v0⟩ | ⟨b1, v0⟩ <;> rcases e1 with ⟨b2, v1⟩ | ⟨b2, v1⟩ <;> rcases e2 with ⟨b4, v2⟩ | ⟨b4, v2⟩ <;> subst v0 <;> subst v1 <;> subst v2
    all_goals
      rw [r_ent (show e_rok 192 [192, q] = true from decide_eq_true r_ref)]
      show e_tv E_C (E_V 192) e_t192_0 [192, q, 0, 0, 0, 0] M = _
      unfold e_t192_0
      simp [zq_a, zq_b, zq_c, zq_d, zq_e, zq_f, zq_g, zq_h, zq_i, zq_j, zq_k, zq_l, zq_m, zq_n, zq_o, zq_p, zq_q, zq_r, zq_s, zq_t, zq_u, zq_v, zq_w, zq_x, zq_y, zq_z, zq_A, zq_B, zq_C, zq_D, zq_E, zq_F, zq_G, zq_H, zq_I, zq_J, zq_K, zq_L, ↓zq_M, ↓zq_N, ↓zq_O, ↓zq_P, ↓zq_Q, ↓zq_R, zq_S, zq_T, zq_U, zq_V, zq_W, zq_X, zq_Y, zq_Z, zq_0, zq_1, zq_2, zq_3, zq_4, zq_5, ↓zq_6, ↓zq_7, ↓zq_8, ↓zq_9, ↓zq_aa, zq_ab, zq_ac, zq_ad, zq_ae, zq_af, zq_ag, ↓zq_ah, ↓zq_ai, ↓zq_aj, zq_ak, ↓zq_al, ↓zq_am, e_b1, e_b2, x_o1, x_o2, r_O0, r_F20, r_F22, r_F23, k22, k23, h20, q1, w1, w2, w3, w4, w5, l0, l1, l2, l3, b1, b2, b4]
  · rw [hd] at l1
    rw [if_neg (by omega)]
    clear v0 v1 v2 z1 z2 a0 a1 a2 hS
    rw [r_ent (show e_rok 192 [192, q] = true from decide_eq_true r_ref)]
    show e_tv E_C (E_V 192) e_t192_0 [192, q, 0, 0, 0, 0] M = _
    unfold e_t192_0
    simp [zq_a, zq_b, zq_c, zq_d, zq_e, zq_f, zq_g, zq_h, zq_i, zq_j, zq_k, zq_l, zq_m, zq_n, zq_o, zq_p, zq_q, zq_r, zq_s, zq_t, zq_u, zq_v, zq_w, zq_x, zq_y, zq_z, zq_A, zq_B, zq_C, zq_D, zq_E, zq_F, zq_G, zq_H, zq_I, zq_J, zq_K, zq_L, ↓zq_M, ↓zq_N, ↓zq_O, ↓zq_P, ↓zq_Q, ↓zq_R, zq_S, zq_T, zq_U, zq_V, zq_W, zq_X, zq_Y, zq_Z, zq_0, zq_1, zq_2, zq_3, zq_4, zq_5, ↓zq_6, ↓zq_7, ↓zq_8, ↓zq_9, ↓zq_aa, zq_ab, zq_ac, zq_ad, zq_ae, zq_af, zq_ag, ↓zq_ah, ↓zq_ai, ↓zq_aj, zq_ak, ↓zq_al, ↓zq_am, e_b1, e_b2, x_o1, x_o2, r_O0, w1, w2, w3, l1]
theorem rx_pvo {o : Nat} {q : Int} {i : Nat} (ho : o < 16) (k22 : M 192 22 = o) (hq : 0 ≤ q ∧ q < 40) (hi : i < 6) (hp : 0 ≤ r_G M (28 * q + 3 + (i : Int)) ∧ r_G M (28 * q + 3 + (i : Int)) ≤ 60) (hw1 : 0 ≤ wo_S (r_G M) o q 3 ∧ wo_S (r_G M) o q 3 ≤ 100) : E_C 193 [192, q, (i : Int)] M = some (cu_pv (r_G M) (wo_S (r_G M) o q 3) q i, M) := by
  obtain ⟨z, hz⟩ : ∃ z, r_G M (28 * q + 3 + (i : Int)) = z := ⟨_, rfl⟩
  rw [hz] at hp
  have v := bx_pve (g := r_G M) (q := q) (i := i) hz.symm hp hw1
  have k : E_C 172 [192, q, (i : Int)] M = some (z, M) := by rw [← hz]; exact r_of hq ⟨by omega, by omega⟩
  have l1 : e_op 60 [193, 28 * q + 15 + 3] M = some (r_G M (28 * q + 15 + 3)) := r_rd (by omega) (by omega)
  have v3 : wo_S (r_G M) o q 3 = if wo_b o 3 = true then 0 else r_G M (28 * q + 15 + 3) := by
    unfold wo_S
    rw [if_neg (show ¬ (3 : Nat) = 0 by decide)]
    rfl
  obtain ⟨ii, hii⟩ : ∃ ii : Int, (i : Int) = ii := ⟨_, rfl⟩
  rw [hii] at k
  rw [hii, ← v]
  clear hz v hii
  have b8 := wo_r3 o ho
  have w1 : e_w (28 * q) = 28 * q := a_w_id (by omega) (by omega)
  have w2 : e_w (28 * q + 15) = 28 * q + 15 := a_w_id (by omega) (by omega)
  have w3 : e_w (28 * q + 15 + 3) = 28 * q + 15 + 3 := a_w_id (by omega) (by omega)
  generalize wo_S (r_G M) o q 3 = s3 at *
  generalize r_G M (28 * q + 15 + 3) = g3 at *
  generalize (o : Int) = oi at *
  by_cases c3 : wo_b o 3 = true
  · rw [if_pos c3] at b8 v3
    subst v3
    rw [r_ent (show e_rok 193 [192, q, ii] = true from decide_eq_true r_ref)]
    show e_tv E_C (E_V 193) e_t193_0 [192, q, ii, 0] M = _
    unfold e_t193_0
    simp [zq_a, zq_b, zq_c, zq_d, zq_e, zq_f, zq_g, zq_h, zq_i, zq_j, zq_k, zq_l, zq_m, zq_n, zq_o, zq_p, zq_q, zq_r, zq_s, zq_t, zq_u, zq_v, zq_w, zq_x, zq_y, zq_z, zq_A, zq_B, zq_C, zq_D, zq_E, zq_F, zq_G, zq_H, zq_I, zq_J, zq_K, zq_L, ↓zq_M, ↓zq_N, ↓zq_O, ↓zq_P, ↓zq_Q, ↓zq_R, zq_S, zq_T, zq_U, zq_V, zq_W, zq_X, zq_Y, zq_Z, zq_0, zq_1, zq_2, zq_3, zq_4, zq_5, ↓zq_6, ↓zq_7, ↓zq_8, ↓zq_9, ↓zq_aa, zq_ab, zq_ac, zq_ad, zq_ae, zq_af, zq_ag, ↓zq_ah, ↓zq_ai, ↓zq_aj, zq_ak, ↓zq_al, ↓zq_am, e_b1, e_b2, x_o1, x_o2, r_O0, r_F22, k22, w1, w2, w3, l1, b8, k]
  · rw [if_neg c3] at b8 v3
    subst v3
    rw [r_ent (show e_rok 193 [192, q, ii] = true from decide_eq_true r_ref)]
    show e_tv E_C (E_V 193) e_t193_0 [192, q, ii, 0] M = _
    unfold e_t193_0
    simp [zq_a, zq_b, zq_c, zq_d, zq_e, zq_f, zq_g, zq_h, zq_i, zq_j, zq_k, zq_l, zq_m, zq_n, zq_o, zq_p, zq_q, zq_r, zq_s, zq_t, zq_u, zq_v, zq_w, zq_x, zq_y, zq_z, zq_A, zq_B, zq_C, zq_D, zq_E, zq_F, zq_G, zq_H, zq_I, zq_J, zq_K, zq_L, ↓zq_M, ↓zq_N, ↓zq_O, ↓zq_P, ↓zq_Q, ↓zq_R, zq_S, zq_T, zq_U, zq_V, zq_W, zq_X, zq_Y, zq_Z, zq_0, zq_1, zq_2, zq_3, zq_4, zq_5, ↓zq_6, ↓zq_7, ↓zq_8, ↓zq_9, ↓zq_aa, zq_ab, zq_ac, zq_ad, zq_ae, zq_af, zq_ag, ↓zq_ah, ↓zq_ai, ↓zq_aj, zq_ak, ↓zq_al, ↓zq_am, e_b1, e_b2, x_o1, x_o2, r_O0, r_F22, k22, w1, w2, w3, l1, b8, k]
theorem rx_mdo {o : Nat} (ho : o < 16) (k22 : M 192 22 = o) (k23 : M 192 23 = -1) (k24 : M 192 24 = -1) (h20 : M 192 20 = -1) (hcs : hd_cs (r_G M)) : rx_md M (hd_SHs (r_G M) (wo_S (r_G M) o)) (fun q => wo_S (r_G M) o q 3) (hd_DI (r_G M)) := by
  refine ⟨fun b q hb hb1 hq => ?_, fun q y h0 h1 hy => ⟨rx_diK k24 ⟨h0, h1⟩ hy, hd_DI_01⟩⟩
  have h40 : 0 ≤ q ∧ q < 40 := ⟨hq.1, by have := hq.2.1; omega⟩
  obtain ⟨n, hn⟩ : ∃ n : Nat, q = n := ⟨q.toNat, by omega⟩
  have hqb : q < r_G M 1198 := by have := hq.2.1; omega
  have ok := wo_ok (o := o) hcs n (by omega) (by rw [← hn]; exact hq.2.2.1)
  have bd := hd_bds (wo_ok (o := o) hcs) n (by omega) (by rw [← hn]; exact hq.2.2.1)
  rw [← hn] at ok bd
  exact ⟨⟨rx_sho ho k22 k23 h20 h40 ok (hcs q hq.1 hqb hq.2.2.1).2, bd.1⟩, ok 3 (by decide), fun i hi p0 p1 => rx_pvo ho k22 h40 hi ⟨p0, p1⟩ (ok 3 (by decide))⟩
theorem rx_MDo {g : Int → Int} {o : Nat} (hG : r_G M = g) (ho : o < 16) (k22 : M 192 22 = o) (k23 : M 192 23 = -1) (k24 : M 192 24 = -1) (h20 : M 192 20 = -1) (hcs : hd_cs g) : rx_MD M (hd_SHs g (wo_S g o)) (fun q => wo_S g o q 3) (hd_DI g) := by
  intro M' h
  have e : r_G M' = g := (rx_sm_G h).trans hG
  have e2 : ∀ k, M' 192 k = M 192 k := fun k => h _ _ (by decide) (by decide)
  have k := rx_mdo (M := M') ho (by rw [e2]; exact k22) (by rw [e2]; exact k23) (by rw [e2]; exact k24) (by rw [e2]; exact h20) (by rw [e]; exact hcs)
  rw [e] at k
  exact k
/-- the reference: WITHOUT -/
theorem rx_245 {g : Int → Int} {p : Int} {o : Nat} {oi : Int} (hG : r_G M = g) (hW : r_W g) (hK : rx_K M) (h20 : M 192 20 = -1) (hcs : hd_cs g) (hcv : hd_cvs g) (hp : 0 ≤ p ∧ p < g 1198) (h6 : cu_nl g (cu_in g p) ≤ 6) (ho : o < 16) (hoi : oi = o) : ∃ M', E_C 245 [192, p, oi] M = some (ax_PW g (wo_S g o) p, M') ∧ r_G M' = g ∧ rx_K M' ∧ M' 192 20 = -1 ∧ ∀ id k, id ≠ 205 → id ≠ 206 → ¬ (id = 192 ∧ k = 22) → M' id k = M id k := by
  have g1 : r_G (e_up M 192 22 oi) = g := (funext fun i => c_up_n (by omega)).trans hG
  obtain ⟨A, k, sm⟩ := rx_209 (M := e_up M 192 22 oi) (p := p) g1 hW (rx_MDo g1 ho (c_up_s.trans hoi) ((c_up_n (by omega)).trans hK.2.1) ((c_up_n (by omega)).trans hK.2.2) ((c_up_n (by omega)).trans h20) hcs) hcv hp h6
  have fA : ∀ k, A 192 k = (e_up M 192 22 oi) 192 k := fun k => sm _ _ (by decide) (by decide)
  refine ⟨e_up A 192 22 0, ?_, ?_, ⟨c_up_s, ?_, ?_⟩, ?_, fun id k i1 i2 i3 => ?_⟩
  · clear sm fA hcs hcv hW
    generalize ax_PW g (wo_S g o) p = z at *
    rw [r_ent (show e_rok 245 [192, p, oi] = true from decide_eq_true r_ref)]
    show e_tv E_C (E_V 245) e_t245_0 [192, p, oi, 0] M = _
    unfold e_t245_0
    simp [zq_a, zq_b, zq_c, zq_d, zq_e, zq_f, zq_g, zq_h, zq_i, zq_j, zq_k, zq_l, zq_m, zq_n, zq_o, zq_p, zq_q, zq_r, zq_s, zq_t, zq_u, zq_v, zq_w, zq_x, zq_y, zq_z, zq_A, zq_B, zq_C, zq_D, zq_E, zq_F, zq_G, zq_H, zq_I, zq_J, zq_K, zq_L, ↓zq_M, ↓zq_N, ↓zq_O, ↓zq_P, ↓zq_Q, ↓zq_R, zq_S, zq_T, zq_U, zq_V, zq_W, zq_X, zq_Y, zq_Z, zq_0, zq_1, zq_2, zq_3, zq_4, zq_5, ↓zq_6, ↓zq_7, ↓zq_8, ↓zq_9, ↓zq_aa, zq_ab, zq_ac, zq_ad, zq_ae, zq_af, zq_ag, ↓zq_ah, ↓zq_ai, ↓zq_aj, zq_ak, ↓zq_al, ↓zq_am, e_b1, e_b2, x_o1, x_o2, r_P22, k]
  · exact (funext fun i => (c_up_n (by omega)).trans (congrFun (rx_sm_G sm) i)).trans g1
  · rw [c_up_n (by omega), fA, c_up_n (by omega)]; exact hK.2.1
  · rw [c_up_n (by omega), fA, c_up_n (by omega)]; exact hK.2.2
  · rw [c_up_n (by omega), fA, c_up_n (by omega)]; exact h20
  · rw [c_up_n i3, sm _ _ i1 i2, c_up_n i3]
end WO
section AXK
variable {M M1 M2 : EM} {p w r1 r2 : Int}
theorem ax_131 (h : hd_all M) : ∃ r M', E_C 131 [8, p, w] M = some (r, M') ∧ M' 171 0 = 0 ∧ r = if (0 ≤ p ∧ p < r_G M 1198) ∧ 0 ≤ w ∧ w ≤ 15 then ax_PW (r_G M) (wo_S (r_G M) w.toNat) p else -1 := by
  have h10 : M 10 0 = r_G M 1198 := h.1.1
  have i := h_149 (k := p) (M := M)
  rw [h10] at i
  have s0 : E_C 131 [8, p, w] M = e_tv E_C (E_V 131) e_t131_0 [8, p, w] M := r_ent (u := 131) (as := [8, p, w]) (M := M) (decide_eq_true c_this)
  rw [s0]
  unfold e_t131_0
  by_cases c : 0 ≤ p ∧ p < r_G M 1198
  · rw [if_pos c] at i
    rcases x_le 0 w with ⟨c0, c0_n⟩ | ⟨c0, c0_n⟩
    · rcases x_le 16 w with ⟨c2, c2_n⟩ | ⟨c2, c2_n⟩
      · refine ⟨-1, M, ?_, h.2.2.2, (if_neg (fun e => by omega)).symm⟩
        simp [zq_a, zq_b, zq_c, zq_d, zq_e, zq_f, zq_g, zq_h, zq_i, zq_j, zq_k, zq_l, zq_m, zq_n, zq_o, zq_p, zq_q, zq_r, zq_s, zq_t, zq_u, zq_v, zq_w, zq_x, zq_y, zq_z, zq_A, zq_B, zq_C, zq_D, zq_E, zq_F, zq_G, zq_H, zq_I, zq_J, zq_K, zq_L, ↓zq_M, ↓zq_N, ↓zq_O, ↓zq_P, ↓zq_Q, ↓zq_R, zq_S, zq_T, zq_U, zq_V, zq_W, zq_X, zq_Y, zq_Z, zq_0, zq_1, zq_2, zq_3, zq_4, zq_5, ↓zq_6, ↓zq_7, ↓zq_8, ↓zq_9, ↓zq_aa, zq_ab, zq_ac, zq_ad, zq_ae, zq_af, zq_ag, ↓zq_ah, ↓zq_ai, ↓zq_aj, zq_ak, ↓zq_al, ↓zq_am, e_b1, e_b2, x_o1, x_o2, i, c0, c0_n, c2, c2_n]
      · rw [if_pos ⟨c, c0, by omega⟩]
        obtain ⟨q, rfl⟩ : ∃ q : Nat, p = q := ⟨p.toNat, by omega⟩
        obtain ⟨M', k, m0, -⟩ := ax_160 (oi := w) h c.2 (o := w.toNat) (by omega) (by omega)
        refine ⟨_, M', ?_, m0, rfl⟩
        generalize ax_PW (r_G M) (wo_S (r_G M) w.toNat) (q : Int) = z at *
        simp [zq_a, zq_b, zq_c, zq_d, zq_e, zq_f, zq_g, zq_h, zq_i, zq_j, zq_k, zq_l, zq_m, zq_n, zq_o, zq_p, zq_q, zq_r, zq_s, zq_t, zq_u, zq_v, zq_w, zq_x, zq_y, zq_z, zq_A, zq_B, zq_C, zq_D, zq_E, zq_F, zq_G, zq_H, zq_I, zq_J, zq_K, zq_L, ↓zq_M, ↓zq_N, ↓zq_O, ↓zq_P, ↓zq_Q, ↓zq_R, zq_S, zq_T, zq_U, zq_V, zq_W, zq_X, zq_Y, zq_Z, zq_0, zq_1, zq_2, zq_3, zq_4, zq_5, ↓zq_6, ↓zq_7, ↓zq_8, ↓zq_9, ↓zq_aa, zq_ab, zq_ac, zq_ad, zq_ae, zq_af, zq_ag, ↓zq_ah, ↓zq_ai, ↓zq_aj, zq_ak, ↓zq_al, ↓zq_am, e_b1, e_b2, x_o1, x_o2, i, c0, c0_n, c2, c2_n, k]
    · refine ⟨-1, M, ?_, h.2.2.2, (if_neg (fun e => by omega)).symm⟩
      simp [zq_a, zq_b, zq_c, zq_d, zq_e, zq_f, zq_g, zq_h, zq_i, zq_j, zq_k, zq_l, zq_m, zq_n, zq_o, zq_p, zq_q, zq_r, zq_s, zq_t, zq_u, zq_v, zq_w, zq_x, zq_y, zq_z, zq_A, zq_B, zq_C, zq_D, zq_E, zq_F, zq_G, zq_H, zq_I, zq_J, zq_K, zq_L, ↓zq_M, ↓zq_N, ↓zq_O, ↓zq_P, ↓zq_Q, ↓zq_R, zq_S, zq_T, zq_U, zq_V, zq_W, zq_X, zq_Y, zq_Z, zq_0, zq_1, zq_2, zq_3, zq_4, zq_5, ↓zq_6, ↓zq_7, ↓zq_8, ↓zq_9, ↓zq_aa, zq_ab, zq_ac, zq_ad, zq_ae, zq_af, zq_ag, ↓zq_ah, ↓zq_ai, ↓zq_aj, zq_ak, ↓zq_al, ↓zq_am, e_b1, e_b2, x_o1, x_o2, i, c0, c0_n]
  · rw [if_neg c] at i
    refine ⟨-1, M, ?_, h.2.2.2, (if_neg (fun e => c e.1)).symm⟩
    simp [zq_a, zq_b, zq_c, zq_d, zq_e, zq_f, zq_g, zq_h, zq_i, zq_j, zq_k, zq_l, zq_m, zq_n, zq_o, zq_p, zq_q, zq_r, zq_s, zq_t, zq_u, zq_v, zq_w, zq_x, zq_y, zq_z, zq_A, zq_B, zq_C, zq_D, zq_E, zq_F, zq_G, zq_H, zq_I, zq_J, zq_K, zq_L, ↓zq_M, ↓zq_N, ↓zq_O, ↓zq_P, ↓zq_Q, ↓zq_R, zq_S, zq_T, zq_U, zq_V, zq_W, zq_X, zq_Y, zq_Z, zq_0, zq_1, zq_2, zq_3, zq_4, zq_5, ↓zq_6, ↓zq_7, ↓zq_8, ↓zq_9, ↓zq_aa, zq_ab, zq_ac, zq_ad, zq_ae, zq_af, zq_ag, ↓zq_ah, ↓zq_ai, ↓zq_aj, zq_ak, ↓zq_al, ↓zq_am, e_b1, e_b2, x_o1, x_o2, i]
theorem ax_246 {g : Int → Int} (hG : r_G M1 = g) (J1 : r_J M1) (K1 : rx_K M1) (hcs : hd_cs g) (hcv : hd_cvs g) (hB6 : ∀ p, cu_nl g (cu_in g p) ≤ 6 ∨ ¬ (0 ≤ p ∧ p < g 1198)) : ∃ r M', E_C 246 [192, p, w] M1 = some (r, M') ∧ r = if (0 ≤ p ∧ p < g 1198) ∧ 0 ≤ w ∧ w ≤ 15 then ax_PW g (wo_S g w.toNat) p else -1 := by
  have hW := (r_J_E J1).2.1
  by_cases c : 0 ≤ p ∧ p < g 1198
  · have ip := r_ip1 hW (by rw [hG]; exact c)
    by_cases cw : 0 ≤ w ∧ w ≤ 15
    · have iw := r_in1 (M := M1) cw
      rw [if_pos ⟨c, cw⟩]
      have hW' := hW
      rw [hG] at hW'
      obtain ⟨M', k, -⟩ := rx_245 (p := p) (oi := w) (o := w.toNat) hG hW' K1 J1.2.2.2.2 hcs hcv c ((hB6 p).resolve_right (fun e => e c)) (by omega) (by omega)
      refine ⟨_, M', ?_, rfl⟩
      generalize ax_PW g (wo_S g w.toNat) p = z at *
      rw [r_ent (show e_rok 246 [192, p, w] = true from decide_eq_true r_ref)]
      show e_tv E_C (E_V 246) e_t246_0 [192, p, w] M1 = _
      unfold e_t246_0
      simp [zq_a, zq_b, zq_c, zq_d, zq_e, zq_f, zq_g, zq_h, zq_i, zq_j, zq_k, zq_l, zq_m, zq_n, zq_o, zq_p, zq_q, zq_r, zq_s, zq_t, zq_u, zq_v, zq_w, zq_x, zq_y, zq_z, zq_A, zq_B, zq_C, zq_D, zq_E, zq_F, zq_G, zq_H, zq_I, zq_J, zq_K, zq_L, ↓zq_M, ↓zq_N, ↓zq_O, ↓zq_P, ↓zq_Q, ↓zq_R, zq_S, zq_T, zq_U, zq_V, zq_W, zq_X, zq_Y, zq_Z, zq_0, zq_1, zq_2, zq_3, zq_4, zq_5, ↓zq_6, ↓zq_7, ↓zq_8, ↓zq_9, ↓zq_aa, zq_ab, zq_ac, zq_ad, zq_ae, zq_af, zq_ag, ↓zq_ah, ↓zq_ai, ↓zq_aj, zq_ak, ↓zq_al, ↓zq_am, e_b1, e_b2, x_o1, x_o2, ip, iw, k]
    · have iw := r_in0 (M := M1) cw
      refine ⟨-1, M1, ?_, (if_neg (fun e => cw e.2)).symm⟩
      rw [r_ent (show e_rok 246 [192, p, w] = true from decide_eq_true r_ref)]
      show e_tv E_C (E_V 246) e_t246_0 [192, p, w] M1 = _
      unfold e_t246_0
      simp [zq_a, zq_b, zq_c, zq_d, zq_e, zq_f, zq_g, zq_h, zq_i, zq_j, zq_k, zq_l, zq_m, zq_n, zq_o, zq_p, zq_q, zq_r, zq_s, zq_t, zq_u, zq_v, zq_w, zq_x, zq_y, zq_z, zq_A, zq_B, zq_C, zq_D, zq_E, zq_F, zq_G, zq_H, zq_I, zq_J, zq_K, zq_L, ↓zq_M, ↓zq_N, ↓zq_O, ↓zq_P, ↓zq_Q, ↓zq_R, zq_S, zq_T, zq_U, zq_V, zq_W, zq_X, zq_Y, zq_Z, zq_0, zq_1, zq_2, zq_3, zq_4, zq_5, ↓zq_6, ↓zq_7, ↓zq_8, ↓zq_9, ↓zq_aa, zq_ab, zq_ac, zq_ad, zq_ae, zq_af, zq_ag, ↓zq_ah, ↓zq_ai, ↓zq_aj, zq_ak, ↓zq_al, ↓zq_am, e_b1, e_b2, x_o1, x_o2, ip, iw]
  · have ip := r_ip0 hW (show ¬ (0 ≤ p ∧ p < r_G M1 1198) by rw [hG]; exact c)
    refine ⟨-1, M1, ?_, (if_neg (fun e => c e.1)).symm⟩
    rw [r_ent (show e_rok 246 [192, p, w] = true from decide_eq_true r_ref)]
    show e_tv E_C (E_V 246) e_t246_0 [192, p, w] M1 = _
    unfold e_t246_0
    simp [zq_a, zq_b, zq_c, zq_d, zq_e, zq_f, zq_g, zq_h, zq_i, zq_j, zq_k, zq_l, zq_m, zq_n, zq_o, zq_p, zq_q, zq_r, zq_s, zq_t, zq_u, zq_v, zq_w, zq_x, zq_y, zq_z, zq_A, zq_B, zq_C, zq_D, zq_E, zq_F, zq_G, zq_H, zq_I, zq_J, zq_K, zq_L, ↓zq_M, ↓zq_N, ↓zq_O, ↓zq_P, ↓zq_Q, ↓zq_R, zq_S, zq_T, zq_U, zq_V, zq_W, zq_X, zq_Y, zq_Z, zq_0, zq_1, zq_2, zq_3, zq_4, zq_5, ↓zq_6, ↓zq_7, ↓zq_8, ↓zq_9, ↓zq_aa, zq_ab, zq_ac, zq_ad, zq_ae, zq_af, zq_ag, ↓zq_ah, ↓zq_ai, ↓zq_aj, zq_ak, ↓zq_al, ↓zq_am, e_b1, e_b2, x_o1, x_o2, ip]
theorem ax_without (h : hd_all M) (J1 : r_J M1) (K1 : rx_K M1) (hfr : ∀ i, M1 193 i = M 193 i) (k1 : E_C 131 [8, p, w] M = some (r1, M1)) (k2 : E_C 246 [192, p, w] M1 = some (r2, M2)) : r1 = r2 ∧ M1 171 0 = 0 := by
  have eG : r_G M1 = r_G M := funext fun i => hfr _
  obtain ⟨r, M', a1, a2, a3⟩ := ax_131 (p := p) (w := w) h
  obtain ⟨r', M'', b1, b3⟩ := ax_246 (p := p) (w := w) eG J1 K1 (hd_cs_of h.2.1) (hd_cvs_of h.2.2.1) (ax_L6 h)
  obtain ⟨e1, e2⟩ := Prod.mk.inj (Option.some.inj (k1.symm.trans a1))
  obtain ⟨f1, f2⟩ := Prod.mk.inj (Option.some.inj (k2.symm.trans b1))
  exact ⟨by rw [e1, f1, a3, b3], by rw [e2]; exact a2⟩
end AXK
end
