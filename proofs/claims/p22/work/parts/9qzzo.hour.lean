section
/-! hours by the reference; lit, hour, day: the two answers -/
section HO
variable {M : EM} {g : Int → Int}
theorem rx_shh {h : Nat} {hh st q : Int} (hF : h_F (r_G M)) (hh' : hh = h) (h12 : h < 12) (k22 : M 192 22 = 0) (k23 : M 192 23 = -1) (h20 : M 192 20 = hh) (h21 : M 192 21 = st) (hst : 0 ≤ st ∧ st ≤ 100) (hq : 0 ≤ q ∧ q < 40) (hl : r_lies (r_G M) q) (hS : ∀ a, a < 4 → 0 ≤ sh_S (r_G M) h st q a ∧ sh_S (r_G M) h st q a ≤ 100) (hd : r_G M (28 * q + 19) = 0 ∨ r_G M (28 * q + 19) = 1) : E_C 192 [192, q] M = some (hd_SHs (r_G M) (sh_S (r_G M) h st) q, M) := by
  have a0 := hS 0 (by decide)
  have a1 := hS 1 (by decide)
  have a2 := hS 2 (by decide)
  obtain ⟨z1, z2⟩ := bx_shv a0 a1 a2
  have tb := ax_T_bd (h := h) hl
  have kb := sh_b tb hst
  have kT := dy_223 (M := M) (q := q) hF hh' h12 hq hl
  have l1 : e_op 60 [193, 28 * q + 15 + 4] M = some (r_G M (28 * q + 19)) := (r_rd (by omega) (by omega)).trans (by rw [show 28 * q + 15 + 4 = 28 * q + 19 by omega])
  have l2 : e_op 60 [193, 28 * q + 15 + 1] M = some (r_G M (28 * q + 15 + 1)) := r_rd (by omega) (by omega)
  have l3 : e_op 60 [193, 28 * q + 15 + 2] M = some (r_G M (28 * q + 15 + 2)) := r_rd (by omega) (by omega)
  have b1 := e_b0 1 (by decide)
  have b2 := e_b0 2 (by decide)
  have b4 := e_b0 4 (by decide)
  have q1 : ¬ (-1 = q) := by omega
  have q2 : 0 ≤ hh := by omega
  have q3 : ¬ hh < 0 := by omega
  have w1 : e_w (28 * q) = 28 * q := a_w_id (by omega) (by omega)
  have w2 : e_w (28 * q + 15) = 28 * q + 15 := a_w_id (by omega) (by omega)
  have w3 : e_w (28 * q + 15 + 4) = 28 * q + 15 + 4 := a_w_id (by omega) (by omega)
  have w4 : e_w (28 * q + 15 + 1) = 28 * q + 15 + 1 := a_w_id (by omega) (by omega)
  have w5 : e_w (28 * q + 15 + 2) = 28 * q + 15 + 2 := a_w_id (by omega) (by omega)
  have v0 : sh_S (r_G M) h st q 0 = (ax_T (r_G M) h q * st).tdiv 100 := if_pos rfl
  have v1 : sh_S (r_G M) h st q 1 = r_G M (28 * q + 15 + 1) := if_neg (by decide)
  have v2 : sh_S (r_G M) h st q 2 = r_G M (28 * q + 15 + 2) := if_neg (by decide)
  have w6 : e_w (ax_T (r_G M) h q * st) = ax_T (r_G M) h q * st := a_w_id (by omega) (by omega)
  have w7 : e_w ((ax_T (r_G M) h q * st).tdiv 100) = (ax_T (r_G M) h q * st).tdiv 100 := a_w_id (by omega) (by omega)
  unfold hd_SHs
  rcases hd with hd | hd
  · rw [hd] at l1
    rw [if_pos hd, ← z1, v0, v1, v2]
    clear hS z1 z2 a0 a1 a2 v0 v1 v2 hF hl kb tb
    generalize ax_T (r_G M) h q = T at *
    generalize r_G M (28 * q + 15 + 1) = g1 at *
    generalize r_G M (28 * q + 15 + 2) = g2 at *
    rw [r_ent (show e_rok 192 [192, q] = true from decide_eq_true r_ref)]
    show e_tv E_C (E_V 192) e_t192_0 [192, q, 0, 0, 0, 0] M = _
    unfold e_t192_0
    simp [zq_a, zq_b, zq_c, zq_d, zq_e, zq_f, zq_g, zq_h, zq_i, zq_j, zq_k, zq_l, zq_m, zq_n, zq_o, zq_p, zq_q, zq_r, zq_s, zq_t, zq_u, zq_v, zq_w, zq_x, zq_y, zq_z, zq_A, zq_B, zq_C, zq_D, zq_E, zq_F, zq_G, zq_H, zq_I, zq_J, zq_K, zq_L, ↓zq_M, ↓zq_N, ↓zq_O, ↓zq_P, ↓zq_Q, ↓zq_R, zq_S, zq_T, zq_U, zq_V, zq_W, zq_X, zq_Y, zq_Z, zq_0, zq_1, zq_2, zq_3, zq_4, zq_5, ↓zq_6, ↓zq_7, ↓zq_8, ↓zq_9, ↓zq_aa, zq_ab, zq_ac, zq_ad, zq_ae, zq_af, zq_ag, ↓zq_ah, ↓zq_ai, ↓zq_aj, zq_ak, ↓zq_al, ↓zq_am, e_b1, e_b2, x_o1, x_o2, r_O0, r_F20, r_F21, r_F22, r_F23, k22, k23, h20, h21, q1, q2, q3, w1, w2, w3, w4, w5, w6, w7, l1, l2, l3, b1, b2, b4, kT]
  · rw [hd] at l1
    rw [if_neg (by omega)]
    clear v0 v1 v2 z1 z2 a0 a1 a2 hS hF hl
    rw [r_ent (show e_rok 192 [192, q] = true from decide_eq_true r_ref)]
    show e_tv E_C (E_V 192) e_t192_0 [192, q, 0, 0, 0, 0] M = _
    unfold e_t192_0
    simp [zq_a, zq_b, zq_c, zq_d, zq_e, zq_f, zq_g, zq_h, zq_i, zq_j, zq_k, zq_l, zq_m, zq_n, zq_o, zq_p, zq_q, zq_r, zq_s, zq_t, zq_u, zq_v, zq_w, zq_x, zq_y, zq_z, zq_A, zq_B, zq_C, zq_D, zq_E, zq_F, zq_G, zq_H, zq_I, zq_J, zq_K, zq_L, ↓zq_M, ↓zq_N, ↓zq_O, ↓zq_P, ↓zq_Q, ↓zq_R, zq_S, zq_T, zq_U, zq_V, zq_W, zq_X, zq_Y, zq_Z, zq_0, zq_1, zq_2, zq_3, zq_4, zq_5, ↓zq_6, ↓zq_7, ↓zq_8, ↓zq_9, ↓zq_aa, zq_ab, zq_ac, zq_ad, zq_ae, zq_af, zq_ag, ↓zq_ah, ↓zq_ai, ↓zq_aj, zq_ak, ↓zq_al, ↓zq_am, e_b1, e_b2, x_o1, x_o2, r_O0, w1, w2, w3, l1]
theorem rx_pvK {q w : Int} {i : Nat} (k22 : M 192 22 = 0) (hq : 0 ≤ q ∧ q < 40) (hi : i < 6) (hp : 0 ≤ r_G M (28 * q + 3 + (i : Int)) ∧ r_G M (28 * q + 3 + (i : Int)) ≤ 60) (hw : r_G M (28 * q + 15 + 3) = w) (hw1 : 0 ≤ w ∧ w ≤ 100) : E_C 193 [192, q, (i : Int)] M = some (cu_pv (r_G M) w q i, M) := by
  obtain ⟨z, hz⟩ : ∃ z, r_G M (28 * q + 3 + (i : Int)) = z := ⟨_, rfl⟩
  rw [hz] at hp
  have v := bx_pve (g := r_G M) (q := q) (i := i) hz.symm hp hw1
  have k : E_C 172 [192, q, (i : Int)] M = some (z, M) := by rw [← hz]; exact r_of hq ⟨by omega, by omega⟩
  have l1 : e_op 60 [193, 28 * q + 15 + 3] M = some w := (r_rd (by omega) (by omega)).trans (by rw [hw])
  obtain ⟨ii, hii⟩ : ∃ ii : Int, (i : Int) = ii := ⟨_, rfl⟩
  rw [hii] at k
  rw [hii, ← v]
  clear hz v hii
  have b8 := e_b0 8 (by decide)
  have w1 : e_w (28 * q) = 28 * q := a_w_id (by omega) (by omega)
  have w2 : e_w (28 * q + 15) = 28 * q + 15 := a_w_id (by omega) (by omega)
  have w3 : e_w (28 * q + 15 + 3) = 28 * q + 15 + 3 := a_w_id (by omega) (by omega)
  rw [r_ent (show e_rok 193 [192, q, ii] = true from decide_eq_true r_ref)]
  show e_tv E_C (E_V 193) e_t193_0 [192, q, ii, 0] M = _
  unfold e_t193_0
  simp [zq_a, zq_b, zq_c, zq_d, zq_e, zq_f, zq_g, zq_h, zq_i, zq_j, zq_k, zq_l, zq_m, zq_n, zq_o, zq_p, zq_q, zq_r, zq_s, zq_t, zq_u, zq_v, zq_w, zq_x, zq_y, zq_z, zq_A, zq_B, zq_C, zq_D, zq_E, zq_F, zq_G, zq_H, zq_I, zq_J, zq_K, zq_L, ↓zq_M, ↓zq_N, ↓zq_O, ↓zq_P, ↓zq_Q, ↓zq_R, zq_S, zq_T, zq_U, zq_V, zq_W, zq_X, zq_Y, zq_Z, zq_0, zq_1, zq_2, zq_3, zq_4, zq_5, ↓zq_6, ↓zq_7, ↓zq_8, ↓zq_9, ↓zq_aa, zq_ab, zq_ac, zq_ad, zq_ae, zq_af, zq_ag, ↓zq_ah, ↓zq_ai, ↓zq_aj, zq_ak, ↓zq_al, ↓zq_am, e_b1, e_b2, x_o1, x_o2, r_O0, r_F22, k22, w1, w2, w3, l1, b8, k]
theorem rx_mdh {h : Nat} {hh st : Int} (hF : h_F (r_G M)) (hh' : hh = h) (h12 : h < 12) (k22 : M 192 22 = 0) (k23 : M 192 23 = -1) (k24 : M 192 24 = -1) (h20 : M 192 20 = hh) (h21 : M 192 21 = st) (hst : 0 ≤ st ∧ st ≤ 100) (hW : r_W (r_G M)) (hcs : hd_cs (r_G M)) : rx_md M (hd_SHs (r_G M) (sh_S (r_G M) h st)) (fun q => sh_S (r_G M) h st q 3) (hd_DI (r_G M)) := by
  refine ⟨fun b q hb hb1 hq => ?_, fun q y h0 h1 hy => ⟨rx_diK k24 ⟨h0, h1⟩ hy, hd_DI_01⟩⟩
  have h40 : 0 ≤ q ∧ q < 40 := ⟨hq.1, by have := hq.2.1; omega⟩
  obtain ⟨n, hn⟩ : ∃ n : Nat, q = n := ⟨q.toNat, by omega⟩
  have hqb : q < r_G M 1198 := by have := hq.2.1; omega
  have ok := sh_ok (h := h) hW hcs hst n (by omega) (by rw [← hn]; exact hq.2.2.1)
  have bd := hd_bds (sh_ok (h := h) hW hcs hst) n (by omega) (by rw [← hn]; exact hq.2.2.1)
  rw [← hn] at ok bd
  exact ⟨⟨rx_shh hF hh' h12 k22 k23 h20 h21 hst h40 hq.2.2.2.2.2 ok (hcs q hq.1 hqb hq.2.2.1).2, bd.1⟩, ok 3 (by decide), fun i hi p0 p1 => rx_pvK k22 h40 hi ⟨p0, p1⟩ rfl (ok 3 (by decide))⟩
theorem rx_MDh {h : Nat} {hh st : Int} (hG : r_G M = g) (hF : h_F g) (hh' : hh = h) (h12 : h < 12) (k22 : M 192 22 = 0) (k23 : M 192 23 = -1) (k24 : M 192 24 = -1) (h20 : M 192 20 = hh) (h21 : M 192 21 = st) (hst : 0 ≤ st ∧ st ≤ 100) (hW : r_W g) (hcs : hd_cs g) : rx_MD M (hd_SHs g (sh_S g h st)) (fun q => sh_S g h st q 3) (hd_DI g) := by
  intro M' hs
  have e : r_G M' = g := (rx_sm_G hs).trans hG
  have e2 : ∀ k, M' 192 k = M 192 k := fun k => hs _ _ (by decide) (by decide)
  have k := rx_mdh (M := M') (h := h) (by rw [e]; exact hF) hh' h12 (by rw [e2]; exact k22) (by rw [e2]; exact k23) (by rw [e2]; exact k24) (by rw [e2]; exact h20) (by rw [e2]; exact h21) hst (by rw [e]; exact hW) (by rw [e]; exact hcs)
  rw [e] at k
  exact k
/-- the reference: BEST POWER in an HOUR -/
def ho_R (g : Int → Int) (N : EM) : Prop := r_G N = g ∧ rx_K N ∧ N 192 20 = -1
theorem rx_229 {h : Nat} {hh d p : Int} (hR : ho_R g M) (hb : ∀ i, -2147483648 ≤ sg_v g i ∧ sg_v g i ≤ 2147483647) (hF : h_F g) (hW : r_W g) (hcs : hd_cs g) (hcv : hd_cvs g) (hp : 0 ≤ p ∧ p < g 1198) (h6 : cu_nl g (cu_in g p) ≤ 6) (hd : 0 ≤ d ∧ d ≤ 9) (hh' : hh = h) (h12 : h < 12) : ∃ M', E_C 229 [192, p, d, hh] M = some (ax_PW g (sh_S g h (ax_G g d hh)) p, M') ∧ ho_R g M' := by
  obtain ⟨hG, hK, h20⟩ := hR
  obtain ⟨A, hA⟩ : ∃ A, e_up M 192 20 hh = A := ⟨_, rfl⟩
  have fA : ∀ id k, ¬ (id = 192 ∧ k = 20) → A id k = M id k := fun id k h => by rw [← hA, c_up_n h]
  have GA : r_G A = g := (funext fun i => fA _ _ (by omega)).trans hG
  have z := hW.2.2.2.2.2.2
  have ks : E_C 227 [192, 12 * d + hh] A = some (ax_G g d hh, A) := by
    have k := sg_227 (M := A) (n := (g 1200).toNat) (k := (12 * d + hh).toNat) (x1 := 12 * d + hh) (by rw [GA]; omega) (by omega) (by rw [GA]; exact hb) (by omega)
    rw [GA] at k
    exact k
  have gb : 0 ≤ ax_G g d hh ∧ ax_G g d hh ≤ 100 := sg_bd
  obtain ⟨B, hB⟩ : ∃ B, e_up A 192 21 (ax_G g d hh) = B := ⟨_, rfl⟩
  have fB : ∀ id k, ¬ (id = 192 ∧ (k = 20 ∨ k = 21)) → B id k = M id k := fun id k h => by
    rw [← hB, c_up_n (by omega)]
    exact fA _ _ (by omega)
  have GB : r_G B = g := (funext fun i => fB _ _ (by omega)).trans hG
  have B20 : B 192 20 = hh := by rw [← hB, c_up_n (by omega), ← hA, c_up_s]
  have B21 : B 192 21 = ax_G g d hh := by rw [← hB, c_up_s]
  obtain ⟨C, k, sm⟩ := rx_209 (M := B) (p := p) GB hW (rx_MDh GB hF hh' h12 ((fB _ _ (by omega)).trans hK.1) ((fB _ _ (by omega)).trans hK.2.1) ((fB _ _ (by omega)).trans hK.2.2) B20 B21 gb hW hcs) hcv hp h6
  have fC : ∀ k, C 192 k = B 192 k := fun k => sm _ _ (by decide) (by decide)
  refine ⟨e_up C 192 20 (-1), ?_, (funext fun i => (c_up_n (by omega)).trans (congrFun (rx_sm_G sm) i)).trans GB, ⟨?_, ?_, ?_⟩, c_up_s⟩
  · clear sm fC fA fB hcs hcv hW hb hF
    generalize ax_PW g (sh_S g h (ax_G g d hh)) p = y at *
    generalize ax_G g d hh = st at *
    have w1 : e_w (12 * d) = 12 * d := a_w_id (by omega) (by omega)
    have w2 : e_w (12 * d + hh) = 12 * d + hh := a_w_id (by omega) (by omega)
    rw [r_ent (show e_rok 229 [192, p, d, hh] = true from decide_eq_true r_ref)]
    show e_tv E_C (E_V 229) e_t229_0 [192, p, d, hh, 0] M = _
    unfold e_t229_0
    simp [zq_a, zq_b, zq_c, zq_d, zq_e, zq_f, zq_g, zq_h, zq_i, zq_j, zq_k, zq_l, zq_m, zq_n, zq_o, zq_p, zq_q, zq_r, zq_s, zq_t, zq_u, zq_v, zq_w, zq_x, zq_y, zq_z, zq_A, zq_B, zq_C, zq_D, zq_E, zq_F, zq_G, zq_H, zq_I, zq_J, zq_K, zq_L, ↓zq_M, ↓zq_N, ↓zq_O, ↓zq_P, ↓zq_Q, ↓zq_R, zq_S, zq_T, zq_U, zq_V, zq_W, zq_X, zq_Y, zq_Z, zq_0, zq_1, zq_2, zq_3, zq_4, zq_5, ↓zq_6, ↓zq_7, ↓zq_8, ↓zq_9, ↓zq_aa, zq_ab, zq_ac, zq_ad, zq_ae, zq_af, zq_ag, ↓zq_ah, ↓zq_ai, ↓zq_aj, zq_ak, ↓zq_al, ↓zq_am, e_b1, e_b2, x_o1, x_o2, r_P20, r_P21, hA, ks, hB, w1, w2, k]
  · rw [c_up_n (by omega), fC]; exact (fB _ _ (by omega)).trans hK.1
  · rw [c_up_n (by omega), fC]; exact (fB _ _ (by omega)).trans hK.2.1
  · rw [c_up_n (by omega), fC]; exact (fB _ _ (by omega)).trans hK.2.2
end HO
def ax_DY (g : Int → Int) (p d : Int) : Nat → Int
  | 0 => 0
  | h + 1 => ax_DY g p d h + ax_PW g (sh_S g h (ax_G g d (h : Int))) p
theorem ax_DY_bd {g : Int → Int} {p d : Int} (h6 : cu_nl g (cu_in g p) ≤ 6) : ∀ n : Nat, 0 ≤ ax_DY g p d n ∧ ax_DY g p d n ≤ 1000000 * (n : Int) := by
  intro n
  induction n with
  | zero => exact ⟨Int.le_refl _, by show (0 : Int) ≤ 1000000 * 0; decide⟩
  | succ n ih =>
    have := ax_PW_bd (S := sh_S g n (ax_G g d (n : Int))) h6
    show 0 ≤ ax_DY g p d n + ax_PW g (sh_S g n (ax_G g d (n : Int))) p ∧ ax_DY g p d n + ax_PW g (sh_S g n (ax_G g d (n : Int))) p ≤ 1000000 * ((n + 1 : Nat) : Int)
    omega
section AXN
variable {M M1 M2 : EM} {p d h w r1 r2 : Int} {g : Int → Int}
/-- lit, by the class -/
theorem ax_120 (hc : dy_C M g) (hW : r_W g) : ∃ r M', E_C 120 [8, p, h] M = some (r, M') ∧ r = if (0 ≤ p ∧ p < g 1198) ∧ 0 ≤ h ∧ h ≤ 11 then (if g (28 * p) = 0 then ax_T g h.toNat p else -3) else -1 := by
  obtain ⟨ha, hG, hR, hK⟩ := id hc
  have i := h_149 (k := p) (M := M)
  rw [show M 10 0 = r_G M 1198 from ha.1.1, hG] at i
  have ih := p_hour h M
  have s0 : E_C 120 [8, p, h] M = e_tv E_C (E_V 120) e_t120_0 [8, p, h] M := r_ent (u := 120) (as := [8, p, h]) (M := M) (decide_eq_true c_this)
  rw [s0]
  unfold e_t120_0
  by_cases c : 0 ≤ p ∧ p < g 1198
  · rw [if_pos c] at i
    by_cases ch : 0 ≤ h ∧ h ≤ 11
    · rw [if_pos ch] at ih
      rw [if_pos ⟨c, ch⟩]
      obtain ⟨q, rfl⟩ : ∃ q : Nat, p = q := ⟨p.toNat, by omega⟩
      have q40 : (q : Int) < 40 := by have := hW.2.1; omega
      have kq : M 11 q = g (28 * (q : Int)) := by
        have := (ha.1.2.2 q (by rw [hG]; exact c.2)).1
        rw [hG] at this
        exact this
      by_cases k0 : g (28 * (q : Int)) = 0
      · rw [if_pos k0]
        have j : E_C 150 [8, (q : Int), 0] M = some (1, M) := (h_150 ⟨by omega, q40⟩).trans (congrArg some (congrArg (·, M) (if_pos (by rw [Int.toNat_natCast, kq]; exact k0))))
        obtain ⟨A, kA, sA, fA⟩ := sd_74 (M := M) (g := g) (h := h.toNat) (hh := h) hR (by omega) (by omega)
        have hC := ha.2.1
        rw [hG] at hC
        obtain ⟨-, -, c3⟩ := hC q c.2 k0
        have kl := lt_38 (N := A) (g := g) (h := h.toNat) (q := q) (qi := (q : Int)) rfl (by omega) (sh_lies hW (by omega) c.2 k0) sA (by
          rw [fA 23 q (by decide), fA 24 q (by decide)]
          exact c3)
        refine ⟨_, A, ?_, rfl⟩
        generalize ax_T g h.toNat (q : Int) = z at *
        simp [zq_a, zq_b, zq_c, zq_d, zq_e, zq_f, zq_g, zq_h, zq_i, zq_j, zq_k, zq_l, zq_m, zq_n, zq_o, zq_p, zq_q, zq_r, zq_s, zq_t, zq_u, zq_v, zq_w, zq_x, zq_y, zq_z, zq_A, zq_B, zq_C, zq_D, zq_E, zq_F, zq_G, zq_H, zq_I, zq_J, zq_K, zq_L, ↓zq_M, ↓zq_N, ↓zq_O, ↓zq_P, ↓zq_Q, ↓zq_R, zq_S, zq_T, zq_U, zq_V, zq_W, zq_X, zq_Y, zq_Z, zq_0, zq_1, zq_2, zq_3, zq_4, zq_5, ↓zq_6, ↓zq_7, ↓zq_8, ↓zq_9, ↓zq_aa, zq_ab, zq_ac, zq_ad, zq_ae, zq_af, zq_ag, ↓zq_ah, ↓zq_ai, ↓zq_aj, zq_ak, ↓zq_al, ↓zq_am, e_b1, e_b2, x_o1, x_o2, p_704, p_195, w_H1, ax_713, i, ih, j, kA, kl]
      · rw [if_neg k0]
        have j : E_C 150 [8, (q : Int), 0] M = some (0, M) := (h_150 ⟨by omega, q40⟩).trans (congrArg some (congrArg (·, M) (if_neg (by rw [Int.toNat_natCast, kq]; exact k0))))
        refine ⟨-3, M, ?_, rfl⟩
        simp [zq_a, zq_b, zq_c, zq_d, zq_e, zq_f, zq_g, zq_h, zq_i, zq_j, zq_k, zq_l, zq_m, zq_n, zq_o, zq_p, zq_q, zq_r, zq_s, zq_t, zq_u, zq_v, zq_w, zq_x, zq_y, zq_z, zq_A, zq_B, zq_C, zq_D, zq_E, zq_F, zq_G, zq_H, zq_I, zq_J, zq_K, zq_L, ↓zq_M, ↓zq_N, ↓zq_O, ↓zq_P, ↓zq_Q, ↓zq_R, zq_S, zq_T, zq_U, zq_V, zq_W, zq_X, zq_Y, zq_Z, zq_0, zq_1, zq_2, zq_3, zq_4, zq_5, ↓zq_6, ↓zq_7, ↓zq_8, ↓zq_9, ↓zq_aa, zq_ab, zq_ac, zq_ad, zq_ae, zq_af, zq_ag, ↓zq_ah, ↓zq_ai, ↓zq_aj, zq_ak, ↓zq_al, ↓zq_am, e_b1, e_b2, x_o1, x_o2, i, ih, j]
    · rw [if_neg ch] at ih
      refine ⟨-1, M, ?_, (if_neg (fun e => ch e.2)).symm⟩
      simp [zq_a, zq_b, zq_c, zq_d, zq_e, zq_f, zq_g, zq_h, zq_i, zq_j, zq_k, zq_l, zq_m, zq_n, zq_o, zq_p, zq_q, zq_r, zq_s, zq_t, zq_u, zq_v, zq_w, zq_x, zq_y, zq_z, zq_A, zq_B, zq_C, zq_D, zq_E, zq_F, zq_G, zq_H, zq_I, zq_J, zq_K, zq_L, ↓zq_M, ↓zq_N, ↓zq_O, ↓zq_P, ↓zq_Q, ↓zq_R, zq_S, zq_T, zq_U, zq_V, zq_W, zq_X, zq_Y, zq_Z, zq_0, zq_1, zq_2, zq_3, zq_4, zq_5, ↓zq_6, ↓zq_7, ↓zq_8, ↓zq_9, ↓zq_aa, zq_ab, zq_ac, zq_ad, zq_ae, zq_af, zq_ag, ↓zq_ah, ↓zq_ai, ↓zq_aj, zq_ak, ↓zq_al, ↓zq_am, e_b1, e_b2, x_o1, x_o2, i, ih]
  · rw [if_neg c] at i
    refine ⟨-1, M, ?_, (if_neg (fun e => c e.1)).symm⟩
    simp [zq_a, zq_b, zq_c, zq_d, zq_e, zq_f, zq_g, zq_h, zq_i, zq_j, zq_k, zq_l, zq_m, zq_n, zq_o, zq_p, zq_q, zq_r, zq_s, zq_t, zq_u, zq_v, zq_w, zq_x, zq_y, zq_z, zq_A, zq_B, zq_C, zq_D, zq_E, zq_F, zq_G, zq_H, zq_I, zq_J, zq_K, zq_L, ↓zq_M, ↓zq_N, ↓zq_O, ↓zq_P, ↓zq_Q, ↓zq_R, zq_S, zq_T, zq_U, zq_V, zq_W, zq_X, zq_Y, zq_Z, zq_0, zq_1, zq_2, zq_3, zq_4, zq_5, ↓zq_6, ↓zq_7, ↓zq_8, ↓zq_9, ↓zq_aa, zq_ab, zq_ac, zq_ad, zq_ae, zq_af, zq_ag, ↓zq_ah, ↓zq_ai, ↓zq_aj, zq_ak, ↓zq_al, ↓zq_am, e_b1, e_b2, x_o1, x_o2, i]
theorem ax_224 (hG : r_G M1 = g) (hF : h_F g) (J1 : r_J M1) : E_C 224 [192, p, h] M1 = some (if (0 ≤ p ∧ p < g 1198) ∧ 0 ≤ h ∧ h ≤ 11 then (if g (28 * p) = 0 then ax_T g h.toNat p else -3) else -1, M1) := by
  have hW := (r_J_E J1).2.1
  by_cases c : 0 ≤ p ∧ p < g 1198
  · have c' : 0 ≤ p ∧ p < r_G M1 1198 := by rw [hG]; exact c
    have ip := r_ip1 hW c'
    have h40 := r_40 hW c'
    have kk : E_C 170 [192, p] M1 = some (g (28 * p), M1) := by rw [← hG]; exact r_kind h40
    by_cases ch : 0 ≤ h ∧ h ≤ 11
    · have ih := r_in1 (M := M1) ch
      rw [if_pos ⟨c, ch⟩]
      by_cases k0 : g (28 * p) = 0
      · rw [if_pos k0]
        rw [k0] at kk
        have hl : r_lies (r_G M1) p := sh_lies hW c.1 c'.2 (by rw [hG]; exact k0)
        have kl := dy_223 (M := M1) (q := p) (hh := h) (h := h.toNat) (by rw [hG]; exact hF) (by omega) (by omega) h40 hl
        rw [hG] at kl
        generalize ax_T g h.toNat p = z at *
        rw [r_ent (show e_rok 224 [192, p, h] = true from decide_eq_true r_ref)]
        show e_tv E_C (E_V 224) e_t224_0 [192, p, h] M1 = _
        unfold e_t224_0
        simp [zq_a, zq_b, zq_c, zq_d, zq_e, zq_f, zq_g, zq_h, zq_i, zq_j, zq_k, zq_l, zq_m, zq_n, zq_o, zq_p, zq_q, zq_r, zq_s, zq_t, zq_u, zq_v, zq_w, zq_x, zq_y, zq_z, zq_A, zq_B, zq_C, zq_D, zq_E, zq_F, zq_G, zq_H, zq_I, zq_J, zq_K, zq_L, ↓zq_M, ↓zq_N, ↓zq_O, ↓zq_P, ↓zq_Q, ↓zq_R, zq_S, zq_T, zq_U, zq_V, zq_W, zq_X, zq_Y, zq_Z, zq_0, zq_1, zq_2, zq_3, zq_4, zq_5, ↓zq_6, ↓zq_7, ↓zq_8, ↓zq_9, ↓zq_aa, zq_ab, zq_ac, zq_ad, zq_ae, zq_af, zq_ag, ↓zq_ah, ↓zq_ai, ↓zq_aj, zq_ak, ↓zq_al, ↓zq_am, e_b1, e_b2, x_o1, x_o2, ip, ih, kk, kl]
      · rw [if_neg k0]
        rw [r_ent (show e_rok 224 [192, p, h] = true from decide_eq_true r_ref)]
        show e_tv E_C (E_V 224) e_t224_0 [192, p, h] M1 = _
        unfold e_t224_0
        simp [zq_a, zq_b, zq_c, zq_d, zq_e, zq_f, zq_g, zq_h, zq_i, zq_j, zq_k, zq_l, zq_m, zq_n, zq_o, zq_p, zq_q, zq_r, zq_s, zq_t, zq_u, zq_v, zq_w, zq_x, zq_y, zq_z, zq_A, zq_B, zq_C, zq_D, zq_E, zq_F, zq_G, zq_H, zq_I, zq_J, zq_K, zq_L, ↓zq_M, ↓zq_N, ↓zq_O, ↓zq_P, ↓zq_Q, ↓zq_R, zq_S, zq_T, zq_U, zq_V, zq_W, zq_X, zq_Y, zq_Z, zq_0, zq_1, zq_2, zq_3, zq_4, zq_5, ↓zq_6, ↓zq_7, ↓zq_8, ↓zq_9, ↓zq_aa, zq_ab, zq_ac, zq_ad, zq_ae, zq_af, zq_ag, ↓zq_ah, ↓zq_ai, ↓zq_aj, zq_ak, ↓zq_al, ↓zq_am, e_b1, e_b2, x_o1, x_o2, ip, ih, kk, k0]
    · have ih := r_in0 (M := M1) ch
      rw [if_neg (fun e => ch e.2)]
      rw [r_ent (show e_rok 224 [192, p, h] = true from decide_eq_true r_ref)]
      show e_tv E_C (E_V 224) e_t224_0 [192, p, h] M1 = _
      unfold e_t224_0
      simp [zq_a, zq_b, zq_c, zq_d, zq_e, zq_f, zq_g, zq_h, zq_i, zq_j, zq_k, zq_l, zq_m, zq_n, zq_o, zq_p, zq_q, zq_r, zq_s, zq_t, zq_u, zq_v, zq_w, zq_x, zq_y, zq_z, zq_A, zq_B, zq_C, zq_D, zq_E, zq_F, zq_G, zq_H, zq_I, zq_J, zq_K, zq_L, ↓zq_M, ↓zq_N, ↓zq_O, ↓zq_P, ↓zq_Q, ↓zq_R, zq_S, zq_T, zq_U, zq_V, zq_W, zq_X, zq_Y, zq_Z, zq_0, zq_1, zq_2, zq_3, zq_4, zq_5, ↓zq_6, ↓zq_7, ↓zq_8, ↓zq_9, ↓zq_aa, zq_ab, zq_ac, zq_ad, zq_ae, zq_af, zq_ag, ↓zq_ah, ↓zq_ai, ↓zq_aj, zq_ak, ↓zq_al, ↓zq_am, e_b1, e_b2, x_o1, x_o2, ip, ih]
  · have ip := r_ip0 hW (show ¬ (0 ≤ p ∧ p < r_G M1 1198) by rw [hG]; exact c)
    rw [if_neg (fun e => c e.1)]
    rw [r_ent (show e_rok 224 [192, p, h] = true from decide_eq_true r_ref)]
    show e_tv E_C (E_V 224) e_t224_0 [192, p, h] M1 = _
    unfold e_t224_0
    simp [zq_a, zq_b, zq_c, zq_d, zq_e, zq_f, zq_g, zq_h, zq_i, zq_j, zq_k, zq_l, zq_m, zq_n, zq_o, zq_p, zq_q, zq_r, zq_s, zq_t, zq_u, zq_v, zq_w, zq_x, zq_y, zq_z, zq_A, zq_B, zq_C, zq_D, zq_E, zq_F, zq_G, zq_H, zq_I, zq_J, zq_K, zq_L, ↓zq_M, ↓zq_N, ↓zq_O, ↓zq_P, ↓zq_Q, ↓zq_R, zq_S, zq_T, zq_U, zq_V, zq_W, zq_X, zq_Y, zq_Z, zq_0, zq_1, zq_2, zq_3, zq_4, zq_5, ↓zq_6, ↓zq_7, ↓zq_8, ↓zq_9, ↓zq_aa, zq_ab, zq_ac, zq_ad, zq_ae, zq_af, zq_ag, ↓zq_ah, ↓zq_ai, ↓zq_aj, zq_ak, ↓zq_al, ↓zq_am, e_b1, e_b2, x_o1, x_o2, ip]
theorem ax_lit (hc : dy_C M g) (hW : r_W g) (J1 : r_J M1) (hG1 : r_G M1 = g) (k1 : E_C 120 [8, p, h] M = some (r1, M1)) (k2 : E_C 224 [192, p, h] M1 = some (r2, M2)) : r1 = r2 ∧ True := by
  obtain ⟨r, M', a1, a3⟩ := ax_120 (p := p) (h := h) hc hW
  have b1 := ax_224 (p := p) (h := h) hG1 hc.2.2.1.2.2.2 J1
  obtain ⟨e1, e2⟩ := Prod.mk.inj (Option.some.inj (k1.symm.trans a1))
  obtain ⟨f1, f2⟩ := Prod.mk.inj (Option.some.inj (k2.symm.trans b1))
  exact ⟨by rw [e1, f1, a3], trivial⟩
theorem ax_123 (hc : dy_C M g) (hW : r_W g) (hb : ∀ i, -2147483648 ≤ sg_v g i ∧ sg_v g i ≤ 2147483647) : ∃ r M', E_C 123 [8, p, d, h] M = some (r, M') ∧ r = if (0 ≤ p ∧ p < g 1198) ∧ (0 ≤ d ∧ d ≤ 9) ∧ 0 ≤ h ∧ h ≤ 11 then ax_PW g (sh_S g h.toNat (ax_G g d h)) p else -1 := by
  obtain ⟨ha, hG, hR, hK⟩ := id hc
  have i := h_149 (k := p) (M := M)
  rw [show M 10 0 = r_G M 1198 from ha.1.1, hG] at i
  have ih := p_hour h M
  have id' := ax_day d M
  have s0 : E_C 123 [8, p, d, h] M = e_tv E_C (E_V 123) e_t123_0 [8, p, d, h] M := r_ent (u := 123) (as := [8, p, d, h]) (M := M) (decide_eq_true c_this)
  rw [s0]
  unfold e_t123_0
  by_cases c : 0 ≤ p ∧ p < g 1198
  · rw [if_pos c] at i
    by_cases cd : 0 ≤ d ∧ d ≤ 9
    · rw [if_pos cd] at id'
      by_cases ch : 0 ≤ h ∧ h ≤ 11
      · rw [if_pos ch] at ih
        rw [if_pos ⟨c, cd, ch⟩]
        obtain ⟨q, rfl⟩ : ∃ q : Nat, p = q := ⟨p.toNat, by omega⟩
        obtain ⟨M', k, -, -⟩ := ax_159 (p := q) (h := h.toNat) (hh := h) hc hW hb c.2 cd (by omega) (by omega)
        refine ⟨_, M', ?_, rfl⟩
        generalize ax_PW g (sh_S g h.toNat (ax_G g d h)) (q : Int) = z at *
        simp [zq_a, zq_b, zq_c, zq_d, zq_e, zq_f, zq_g, zq_h, zq_i, zq_j, zq_k, zq_l, zq_m, zq_n, zq_o, zq_p, zq_q, zq_r, zq_s, zq_t, zq_u, zq_v, zq_w, zq_x, zq_y, zq_z, zq_A, zq_B, zq_C, zq_D, zq_E, zq_F, zq_G, zq_H, zq_I, zq_J, zq_K, zq_L, ↓zq_M, ↓zq_N, ↓zq_O, ↓zq_P, ↓zq_Q, ↓zq_R, zq_S, zq_T, zq_U, zq_V, zq_W, zq_X, zq_Y, zq_Z, zq_0, zq_1, zq_2, zq_3, zq_4, zq_5, ↓zq_6, ↓zq_7, ↓zq_8, ↓zq_9, ↓zq_aa, zq_ab, zq_ac, zq_ad, zq_ae, zq_af, zq_ag, ↓zq_ah, ↓zq_ai, ↓zq_aj, zq_ak, ↓zq_al, ↓zq_am, e_b1, e_b2, x_o1, x_o2, i, id', ih, k]
      · rw [if_neg ch] at ih
        refine ⟨-1, M, ?_, (if_neg (fun e => ch e.2.2)).symm⟩
        simp [zq_a, zq_b, zq_c, zq_d, zq_e, zq_f, zq_g, zq_h, zq_i, zq_j, zq_k, zq_l, zq_m, zq_n, zq_o, zq_p, zq_q, zq_r, zq_s, zq_t, zq_u, zq_v, zq_w, zq_x, zq_y, zq_z, zq_A, zq_B, zq_C, zq_D, zq_E, zq_F, zq_G, zq_H, zq_I, zq_J, zq_K, zq_L, ↓zq_M, ↓zq_N, ↓zq_O, ↓zq_P, ↓zq_Q, ↓zq_R, zq_S, zq_T, zq_U, zq_V, zq_W, zq_X, zq_Y, zq_Z, zq_0, zq_1, zq_2, zq_3, zq_4, zq_5, ↓zq_6, ↓zq_7, ↓zq_8, ↓zq_9, ↓zq_aa, zq_ab, zq_ac, zq_ad, zq_ae, zq_af, zq_ag, ↓zq_ah, ↓zq_ai, ↓zq_aj, zq_ak, ↓zq_al, ↓zq_am, e_b1, e_b2, x_o1, x_o2, i, id', ih]
    · rw [if_neg cd] at id'
      refine ⟨-1, M, ?_, (if_neg (fun e => cd e.2.1)).symm⟩
      simp [zq_a, zq_b, zq_c, zq_d, zq_e, zq_f, zq_g, zq_h, zq_i, zq_j, zq_k, zq_l, zq_m, zq_n, zq_o, zq_p, zq_q, zq_r, zq_s, zq_t, zq_u, zq_v, zq_w, zq_x, zq_y, zq_z, zq_A, zq_B, zq_C, zq_D, zq_E, zq_F, zq_G, zq_H, zq_I, zq_J, zq_K, zq_L, ↓zq_M, ↓zq_N, ↓zq_O, ↓zq_P, ↓zq_Q, ↓zq_R, zq_S, zq_T, zq_U, zq_V, zq_W, zq_X, zq_Y, zq_Z, zq_0, zq_1, zq_2, zq_3, zq_4, zq_5, ↓zq_6, ↓zq_7, ↓zq_8, ↓zq_9, ↓zq_aa, zq_ab, zq_ac, zq_ad, zq_ae, zq_af, zq_ag, ↓zq_ah, ↓zq_ai, ↓zq_aj, zq_ak, ↓zq_al, ↓zq_am, e_b1, e_b2, x_o1, x_o2, i, id']
  · rw [if_neg c] at i
    refine ⟨-1, M, ?_, (if_neg (fun e => c e.1)).symm⟩
    simp [zq_a, zq_b, zq_c, zq_d, zq_e, zq_f, zq_g, zq_h, zq_i, zq_j, zq_k, zq_l, zq_m, zq_n, zq_o, zq_p, zq_q, zq_r, zq_s, zq_t, zq_u, zq_v, zq_w, zq_x, zq_y, zq_z, zq_A, zq_B, zq_C, zq_D, zq_E, zq_F, zq_G, zq_H, zq_I, zq_J, zq_K, zq_L, ↓zq_M, ↓zq_N, ↓zq_O, ↓zq_P, ↓zq_Q, ↓zq_R, zq_S, zq_T, zq_U, zq_V, zq_W, zq_X, zq_Y, zq_Z, zq_0, zq_1, zq_2, zq_3, zq_4, zq_5, ↓zq_6, ↓zq_7, ↓zq_8, ↓zq_9, ↓zq_aa, zq_ab, zq_ac, zq_ad, zq_ae, zq_af, zq_ag, ↓zq_ah, ↓zq_ai, ↓zq_aj, zq_ak, ↓zq_al, ↓zq_am, e_b1, e_b2, x_o1, x_o2, i]
theorem ax_230 (hR : ho_R g M1) (hb : ∀ i, -2147483648 ≤ sg_v g i ∧ sg_v g i ≤ 2147483647) (hF : h_F g) (hW : r_W g) (hcs : hd_cs g) (hcv : hd_cvs g) (hB6 : ∀ p, cu_nl g (cu_in g p) ≤ 6 ∨ ¬ (0 ≤ p ∧ p < g 1198)) : ∃ r M', E_C 230 [192, p, d, h] M1 = some (r, M') ∧ r = if (0 ≤ p ∧ p < g 1198) ∧ (0 ≤ d ∧ d ≤ 9) ∧ 0 ≤ h ∧ h ≤ 11 then ax_PW g (sh_S g h.toNat (ax_G g d h)) p else -1 := by
  have hG := hR.1
  have hW' : r_W (r_G M1) := by rw [hG]; exact hW
  by_cases c : 0 ≤ p ∧ p < g 1198
  · have ip := r_ip1 hW' (by rw [hG]; exact c)
    by_cases cd : 0 ≤ d ∧ d ≤ 9
    · have i1 := r_in1 (M := M1) cd
      by_cases ch : 0 ≤ h ∧ h ≤ 11
      · have i2 := r_in1 (M := M1) ch
        rw [if_pos ⟨c, cd, ch⟩]
        obtain ⟨M', k, -⟩ := rx_229 (h := h.toNat) (hh := h) hR hb hF hW hcs hcv c ((hB6 p).resolve_right (fun e => e c)) cd (by omega) (by omega)
        refine ⟨_, M', ?_, rfl⟩
        generalize ax_PW g (sh_S g h.toNat (ax_G g d h)) p = z at *
        rw [r_ent (show e_rok 230 [192, p, d, h] = true from decide_eq_true r_ref)]
        show e_tv E_C (E_V 230) e_t230_0 [192, p, d, h] M1 = _
        unfold e_t230_0
        simp [zq_a, zq_b, zq_c, zq_d, zq_e, zq_f, zq_g, zq_h, zq_i, zq_j, zq_k, zq_l, zq_m, zq_n, zq_o, zq_p, zq_q, zq_r, zq_s, zq_t, zq_u, zq_v, zq_w, zq_x, zq_y, zq_z, zq_A, zq_B, zq_C, zq_D, zq_E, zq_F, zq_G, zq_H, zq_I, zq_J, zq_K, zq_L, ↓zq_M, ↓zq_N, ↓zq_O, ↓zq_P, ↓zq_Q, ↓zq_R, zq_S, zq_T, zq_U, zq_V, zq_W, zq_X, zq_Y, zq_Z, zq_0, zq_1, zq_2, zq_3, zq_4, zq_5, ↓zq_6, ↓zq_7, ↓zq_8, ↓zq_9, ↓zq_aa, zq_ab, zq_ac, zq_ad, zq_ae, zq_af, zq_ag, ↓zq_ah, ↓zq_ai, ↓zq_aj, zq_ak, ↓zq_al, ↓zq_am, e_b1, e_b2, x_o1, x_o2, ip, i1, i2, k]
      · have i2 := r_in0 (M := M1) ch
        refine ⟨-1, M1, ?_, (if_neg (fun e => ch e.2.2)).symm⟩
        rw [r_ent (show e_rok 230 [192, p, d, h] = true from decide_eq_true r_ref)]
        show e_tv E_C (E_V 230) e_t230_0 [192, p, d, h] M1 = _
        unfold e_t230_0
        simp [zq_a, zq_b, zq_c, zq_d, zq_e, zq_f, zq_g, zq_h, zq_i, zq_j, zq_k, zq_l, zq_m, zq_n, zq_o, zq_p, zq_q, zq_r, zq_s, zq_t, zq_u, zq_v, zq_w, zq_x, zq_y, zq_z, zq_A, zq_B, zq_C, zq_D, zq_E, zq_F, zq_G, zq_H, zq_I, zq_J, zq_K, zq_L, ↓zq_M, ↓zq_N, ↓zq_O, ↓zq_P, ↓zq_Q, ↓zq_R, zq_S, zq_T, zq_U, zq_V, zq_W, zq_X, zq_Y, zq_Z, zq_0, zq_1, zq_2, zq_3, zq_4, zq_5, ↓zq_6, ↓zq_7, ↓zq_8, ↓zq_9, ↓zq_aa, zq_ab, zq_ac, zq_ad, zq_ae, zq_af, zq_ag, ↓zq_ah, ↓zq_ai, ↓zq_aj, zq_ak, ↓zq_al, ↓zq_am, e_b1, e_b2, x_o1, x_o2, ip, i1, i2]
    · have i1 := r_in0 (M := M1) cd
      refine ⟨-1, M1, ?_, (if_neg (fun e => cd e.2.1)).symm⟩
      rw [r_ent (show e_rok 230 [192, p, d, h] = true from decide_eq_true r_ref)]
      show e_tv E_C (E_V 230) e_t230_0 [192, p, d, h] M1 = _
      unfold e_t230_0
      simp [zq_a, zq_b, zq_c, zq_d, zq_e, zq_f, zq_g, zq_h, zq_i, zq_j, zq_k, zq_l, zq_m, zq_n, zq_o, zq_p, zq_q, zq_r, zq_s, zq_t, zq_u, zq_v, zq_w, zq_x, zq_y, zq_z, zq_A, zq_B, zq_C, zq_D, zq_E, zq_F, zq_G, zq_H, zq_I, zq_J, zq_K, zq_L, ↓zq_M, ↓zq_N, ↓zq_O, ↓zq_P, ↓zq_Q, ↓zq_R, zq_S, zq_T, zq_U, zq_V, zq_W, zq_X, zq_Y, zq_Z, zq_0, zq_1, zq_2, zq_3, zq_4, zq_5, ↓zq_6, ↓zq_7, ↓zq_8, ↓zq_9, ↓zq_aa, zq_ab, zq_ac, zq_ad, zq_ae, zq_af, zq_ag, ↓zq_ah, ↓zq_ai, ↓zq_aj, zq_ak, ↓zq_al, ↓zq_am, e_b1, e_b2, x_o1, x_o2, ip, i1]
  · have ip := r_ip0 hW' (by rw [hG]; exact c)
    refine ⟨-1, M1, ?_, (if_neg (fun e => c e.1)).symm⟩
    rw [r_ent (show e_rok 230 [192, p, d, h] = true from decide_eq_true r_ref)]
    show e_tv E_C (E_V 230) e_t230_0 [192, p, d, h] M1 = _
    unfold e_t230_0
    simp [zq_a, zq_b, zq_c, zq_d, zq_e, zq_f, zq_g, zq_h, zq_i, zq_j, zq_k, zq_l, zq_m, zq_n, zq_o, zq_p, zq_q, zq_r, zq_s, zq_t, zq_u, zq_v, zq_w, zq_x, zq_y, zq_z, zq_A, zq_B, zq_C, zq_D, zq_E, zq_F, zq_G, zq_H, zq_I, zq_J, zq_K, zq_L, ↓zq_M, ↓zq_N, ↓zq_O, ↓zq_P, ↓zq_Q, ↓zq_R, zq_S, zq_T, zq_U, zq_V, zq_W, zq_X, zq_Y, zq_Z, zq_0, zq_1, zq_2, zq_3, zq_4, zq_5, ↓zq_6, ↓zq_7, ↓zq_8, ↓zq_9, ↓zq_aa, zq_ab, zq_ac, zq_ad, zq_ae, zq_af, zq_ag, ↓zq_ah, ↓zq_ai, ↓zq_aj, zq_ak, ↓zq_al, ↓zq_am, e_b1, e_b2, x_o1, x_o2, ip]
theorem ax_hour (hc : dy_C M g) (hW : r_W g) (hM : a_M M) (J1 : r_J M1) (K1 : rx_K M1) (hG1 : r_G M1 = g) (k1 : E_C 123 [8, p, d, h] M = some (r1, M1)) (k2 : E_C 230 [192, p, d, h] M1 = some (r2, M2)) : r1 = r2 ∧ True := by
  have hb : ∀ i, -2147483648 ≤ sg_v g i ∧ sg_v g i ≤ 2147483647 := fun i => by
    rw [← hc.2.1]
    exact r_gr hM _
  have ha := hc.1
  have L6 := ax_L6 ha
  have cs := hd_cs_of ha.2.1
  have cv := hd_cvs_of ha.2.2.1
  rw [hc.2.1] at L6 cs cv
  obtain ⟨r, M', a1, a3⟩ := ax_123 (p := p) (d := d) (h := h) hc hW hb
  obtain ⟨r', M'', b1, b3⟩ := ax_230 (p := p) (d := d) (h := h) ⟨hG1, K1, J1.2.2.2.2⟩ hb hc.2.2.1.2.2.2 hW cs cv L6
  obtain ⟨e1, e2⟩ := Prod.mk.inj (Option.some.inj (k1.symm.trans a1))
  obtain ⟨f1, f2⟩ := Prod.mk.inj (Option.some.inj (k2.symm.trans b1))
  exact ⟨by rw [e1, f1, a3, b3], trivial⟩
/-- the class: a DAY -/
theorem dy_22 {q : Nat} (hW : r_W g) (hb : ∀ i, -2147483648 ≤ sg_v g i ∧ sg_v g i ≤ 2147483647) (hp : (q : Int) < g 1198) (hd : 0 ≤ d ∧ d ≤ 9) (h6 : cu_nl g (cu_in g (q : Int)) ≤ 6) : ∀ (t m : Nat) (x3 x4 : Int) (N : EM), x4 = m → m + t = 12 → x3 = ax_DY g (q : Int) d m → dy_C N g → ∃ M', E_V 124 22 [8, (q : Int), d, x3, x4] N = some (ax_DY g (q : Int) d 12, M') := by
  intro t
  induction t with
  | zero =>
    intro m x3 x4 N hx hm h3 hc
    have e : m = 12 := by omega
    subst e
    have q0 : ¬ (x4 < 12) := by omega
    refine ⟨N, ?_⟩
    rw [← h3]
    clear hc h3 hb hW
    rw [E_V_eq]
    show e_tv E_C (E_V 124) e_t124_22 [8, (q : Int), d, x3, x4] N = _
    unfold e_t124_22
    simp [zq_a, zq_b, zq_c, zq_d, zq_e, zq_f, zq_g, zq_h, zq_i, zq_j, zq_k, zq_l, zq_m, zq_n, zq_o, zq_p, zq_q, zq_r, zq_s, zq_t, zq_u, zq_v, zq_w, zq_x, zq_y, zq_z, zq_A, zq_B, zq_C, zq_D, zq_E, zq_F, zq_G, zq_H, zq_I, zq_J, zq_K, zq_L, ↓zq_M, ↓zq_N, ↓zq_O, ↓zq_P, ↓zq_Q, ↓zq_R, zq_S, zq_T, zq_U, zq_V, zq_W, zq_X, zq_Y, zq_Z, zq_0, zq_1, zq_2, zq_3, zq_4, zq_5, ↓zq_6, ↓zq_7, ↓zq_8, ↓zq_9, ↓zq_aa, zq_ab, zq_ac, zq_ad, zq_ae, zq_af, zq_ag, ↓zq_ah, ↓zq_ai, ↓zq_aj, zq_ak, ↓zq_al, ↓zq_am, e_b1, e_b2, x_o1, x_o2, q0]
  | succ t ih =>
    intro m x3 x4 N hx hm h3 hc
    have q0 : x4 < 12 := by omega
    have w1 : e_w (x4 + 1) = x4 + 1 := a_w_id (by omega) (by omega)
    obtain ⟨N1, k1, z1, f1⟩ := ax_159 (h := m) (hh := x4) hc hW hb hp hd hx (by omega)
    have bd := ax_DY_bd (d := d) h6 m
    have pb := ax_PW_bd (S := sh_S g m (ax_G g d x4)) h6
    rw [← h3] at bd
    have es : ax_DY g (q : Int) d (m + 1) = x3 + ax_PW g (sh_S g m (ax_G g d x4)) (q : Int) := by rw [h3, hx]; rfl
    obtain ⟨M', k⟩ := ih (m + 1) _ (x4 + 1) N1 (by omega) (by omega) es.symm (dy_C_fr hc f1 z1)
    refine ⟨M', ?_⟩
    rw [← k]
    clear ih k es hc h3 hb hW f1
    generalize ax_PW g (sh_S g m (ax_G g d x4)) (q : Int) = z at *
    have w2 : e_w (x3 + z) = x3 + z := a_w_id (by omega) (by omega)
    rw [E_V_eq]
    show e_tv E_C (E_V 124) e_t124_22 [8, (q : Int), d, x3, x4] N = _
    unfold e_t124_22
    simp [zq_a, zq_b, zq_c, zq_d, zq_e, zq_f, zq_g, zq_h, zq_i, zq_j, zq_k, zq_l, zq_m, zq_n, zq_o, zq_p, zq_q, zq_r, zq_s, zq_t, zq_u, zq_v, zq_w, zq_x, zq_y, zq_z, zq_A, zq_B, zq_C, zq_D, zq_E, zq_F, zq_G, zq_H, zq_I, zq_J, zq_K, zq_L, ↓zq_M, ↓zq_N, ↓zq_O, ↓zq_P, ↓zq_Q, ↓zq_R, zq_S, zq_T, zq_U, zq_V, zq_W, zq_X, zq_Y, zq_Z, zq_0, zq_1, zq_2, zq_3, zq_4, zq_5, ↓zq_6, ↓zq_7, ↓zq_8, ↓zq_9, ↓zq_aa, zq_ab, zq_ac, zq_ad, zq_ae, zq_af, zq_ag, ↓zq_ah, ↓zq_ai, ↓zq_aj, zq_ak, ↓zq_al, ↓zq_am, e_b1, e_b2, x_o1, x_o2, q0, k1, w1, w2]
theorem dy_27 (hb : ∀ i, -2147483648 ≤ sg_v g i ∧ sg_v g i ≤ 2147483647) (hF : h_F g) (hW : r_W g) (hcs : hd_cs g) (hcv : hd_cvs g) (hp : 0 ≤ p ∧ p < g 1198) (h6 : cu_nl g (cu_in g p) ≤ 6) (hd : 0 ≤ d ∧ d ≤ 9) : ∀ (t m : Nat) (x3 x4 : Int) (N : EM), x4 = m → m + t = 12 → x3 = ax_DY g p d m → ho_R g N → ∃ M', E_V 231 27 [192, p, d, x3, x4] N = some (ax_DY g p d 12, M') := by
  intro t
  induction t with
  | zero =>
    intro m x3 x4 N hx hm h3 hc
    have e : m = 12 := by omega
    subst e
    have q0 : ¬ (x4 < 12) := by omega
    refine ⟨N, ?_⟩
    rw [← h3]
    clear hc h3 hb hW hcs hcv hF
    rw [E_V_eq]
    show e_tv E_C (E_V 231) e_t231_27 [192, p, d, x3, x4] N = _
    unfold e_t231_27
    simp [zq_a, zq_b, zq_c, zq_d, zq_e, zq_f, zq_g, zq_h, zq_i, zq_j, zq_k, zq_l, zq_m, zq_n, zq_o, zq_p, zq_q, zq_r, zq_s, zq_t, zq_u, zq_v, zq_w, zq_x, zq_y, zq_z, zq_A, zq_B, zq_C, zq_D, zq_E, zq_F, zq_G, zq_H, zq_I, zq_J, zq_K, zq_L, ↓zq_M, ↓zq_N, ↓zq_O, ↓zq_P, ↓zq_Q, ↓zq_R, zq_S, zq_T, zq_U, zq_V, zq_W, zq_X, zq_Y, zq_Z, zq_0, zq_1, zq_2, zq_3, zq_4, zq_5, ↓zq_6, ↓zq_7, ↓zq_8, ↓zq_9, ↓zq_aa, zq_ab, zq_ac, zq_ad, zq_ae, zq_af, zq_ag, ↓zq_ah, ↓zq_ai, ↓zq_aj, zq_ak, ↓zq_al, ↓zq_am, e_b1, e_b2, x_o1, x_o2, q0]
  | succ t ih =>
    intro m x3 x4 N hx hm h3 hc
    have q0 : x4 < 12 := by omega
    have w1 : e_w (x4 + 1) = x4 + 1 := a_w_id (by omega) (by omega)
    obtain ⟨N1, k1, c1⟩ := rx_229 (h := m) (hh := x4) hc hb hF hW hcs hcv hp h6 hd hx (by omega)
    have bd := ax_DY_bd (d := d) h6 m
    have pb := ax_PW_bd (S := sh_S g m (ax_G g d x4)) h6
    rw [← h3] at bd
    have es : ax_DY g p d (m + 1) = x3 + ax_PW g (sh_S g m (ax_G g d x4)) p := by rw [h3, hx]; rfl
    obtain ⟨M', k⟩ := ih (m + 1) _ (x4 + 1) N1 (by omega) (by omega) es.symm c1
    refine ⟨M', ?_⟩
    rw [← k]
    clear ih k es hc h3 hb hW hcs hcv hF c1
    generalize ax_PW g (sh_S g m (ax_G g d x4)) p = z at *
    have w2 : e_w (x3 + z) = x3 + z := a_w_id (by omega) (by omega)
    rw [E_V_eq]
    show e_tv E_C (E_V 231) e_t231_27 [192, p, d, x3, x4] N = _
    unfold e_t231_27
    simp [zq_a, zq_b, zq_c, zq_d, zq_e, zq_f, zq_g, zq_h, zq_i, zq_j, zq_k, zq_l, zq_m, zq_n, zq_o, zq_p, zq_q, zq_r, zq_s, zq_t, zq_u, zq_v, zq_w, zq_x, zq_y, zq_z, zq_A, zq_B, zq_C, zq_D, zq_E, zq_F, zq_G, zq_H, zq_I, zq_J, zq_K, zq_L, ↓zq_M, ↓zq_N, ↓zq_O, ↓zq_P, ↓zq_Q, ↓zq_R, zq_S, zq_T, zq_U, zq_V, zq_W, zq_X, zq_Y, zq_Z, zq_0, zq_1, zq_2, zq_3, zq_4, zq_5, ↓zq_6, ↓zq_7, ↓zq_8, ↓zq_9, ↓zq_aa, zq_ab, zq_ac, zq_ad, zq_ae, zq_af, zq_ag, ↓zq_ah, ↓zq_ai, ↓zq_aj, zq_ak, ↓zq_al, ↓zq_am, e_b1, e_b2, x_o1, x_o2, q0, k1, w1, w2]
theorem ax_dayR (hc : dy_C M g) (hW : r_W g) (hM : a_M M) (J1 : r_J M1) (K1 : rx_K M1) (hG1 : r_G M1 = g) (k1 : E_C 124 [8, p, d] M = some (r1, M1)) (k2 : E_C 231 [192, p, d] M1 = some (r2, M2)) : r1 = r2 ∧ True := by
  have hb : ∀ i, -2147483648 ≤ sg_v g i ∧ sg_v g i ≤ 2147483647 := fun i => by
    rw [← hc.2.1]
    exact r_gr hM _
  have ha := hc.1
  have L6 := ax_L6 ha
  have cs := hd_cs_of ha.2.1
  have cv := hd_cvs_of ha.2.2.1
  rw [hc.2.1] at L6 cs cv
  have i := h_149 (k := p) (M := M)
  rw [show M 10 0 = r_G M 1198 from ha.1.1, hc.2.1] at i
  have id' := ax_day d M
  have s0 : E_C 124 [8, p, d] M = e_tv E_C (E_V 124) e_t124_0 [8, p, d, 0, 0] M := r_ent (u := 124) (as := [8, p, d]) (M := M) (decide_eq_true c_this)
  have hW' : r_W (r_G M1) := by rw [hG1]; exact hW
  by_cases c : 0 ≤ p ∧ p < g 1198
  · rw [if_pos c] at i
    have ip := r_ip1 hW' (by rw [hG1]; exact c)
    by_cases cd : 0 ≤ d ∧ d ≤ 9
    · rw [if_pos cd] at id'
      have i1 := r_in1 (M := M1) cd
      have h6 := (L6 p).resolve_right (fun e => e c)
      obtain ⟨N2, k4⟩ := dy_27 (p := p) (d := d) hb hc.2.2.1.2.2.2 hW cs cv c h6 cd 12 0 0 0 M1 rfl (by omega) rfl ⟨hG1, K1, J1.2.2.2.2⟩
      have b1 : E_C 231 [192, p, d] M1 = some (ax_DY g p d 12, N2) := by
        clear hb cs cv L6 hc
        generalize ax_DY g p d 12 = z at *
        rw [r_ent (show e_rok 231 [192, p, d] = true from decide_eq_true r_ref)]
        show e_tv E_C (E_V 231) e_t231_0 [192, p, d, 0, 0] M1 = _
        unfold e_t231_0
        simp [zq_a, zq_b, zq_c, zq_d, zq_e, zq_f, zq_g, zq_h, zq_i, zq_j, zq_k, zq_l, zq_m, zq_n, zq_o, zq_p, zq_q, zq_r, zq_s, zq_t, zq_u, zq_v, zq_w, zq_x, zq_y, zq_z, zq_A, zq_B, zq_C, zq_D, zq_E, zq_F, zq_G, zq_H, zq_I, zq_J, zq_K, zq_L, ↓zq_M, ↓zq_N, ↓zq_O, ↓zq_P, ↓zq_Q, ↓zq_R, zq_S, zq_T, zq_U, zq_V, zq_W, zq_X, zq_Y, zq_Z, zq_0, zq_1, zq_2, zq_3, zq_4, zq_5, ↓zq_6, ↓zq_7, ↓zq_8, ↓zq_9, ↓zq_aa, zq_ab, zq_ac, zq_ad, zq_ae, zq_af, zq_ag, ↓zq_ah, ↓zq_ai, ↓zq_aj, zq_ak, ↓zq_al, ↓zq_am, e_b1, e_b2, x_o1, x_o2, ip, i1, k4]
      obtain ⟨q, rfl⟩ : ∃ q : Nat, p = q := ⟨p.toNat, by omega⟩
      obtain ⟨N1, k3⟩ := dy_22 (q := q) (d := d) hW hb c.2 cd h6 12 0 0 0 M rfl (by omega) rfl hc
      have a1 : E_C 124 [8, (q : Int), d] M = some (ax_DY g (q : Int) d 12, N1) := by
        rw [s0]
        unfold e_t124_0
        clear hb cs cv L6 hc k4 b1
        generalize ax_DY g (q : Int) d 12 = z at *
        simp [zq_a, zq_b, zq_c, zq_d, zq_e, zq_f, zq_g, zq_h, zq_i, zq_j, zq_k, zq_l, zq_m, zq_n, zq_o, zq_p, zq_q, zq_r, zq_s, zq_t, zq_u, zq_v, zq_w, zq_x, zq_y, zq_z, zq_A, zq_B, zq_C, zq_D, zq_E, zq_F, zq_G, zq_H, zq_I, zq_J, zq_K, zq_L, ↓zq_M, ↓zq_N, ↓zq_O, ↓zq_P, ↓zq_Q, ↓zq_R, zq_S, zq_T, zq_U, zq_V, zq_W, zq_X, zq_Y, zq_Z, zq_0, zq_1, zq_2, zq_3, zq_4, zq_5, ↓zq_6, ↓zq_7, ↓zq_8, ↓zq_9, ↓zq_aa, zq_ab, zq_ac, zq_ad, zq_ae, zq_af, zq_ag, ↓zq_ah, ↓zq_ai, ↓zq_aj, zq_ak, ↓zq_al, ↓zq_am, e_b1, e_b2, x_o1, x_o2, i, id', k3]
      obtain ⟨e1, e2⟩ := Prod.mk.inj (Option.some.inj (k1.symm.trans a1))
      obtain ⟨f1, f2⟩ := Prod.mk.inj (Option.some.inj (k2.symm.trans b1))
      exact ⟨e1.trans f1.symm, trivial⟩
    · rw [if_neg cd] at id'
      have i1 := r_in0 (M := M1) cd
      have a1 : E_C 124 [8, p, d] M = some (-1, M) := by
        rw [s0]
        unfold e_t124_0
        simp [zq_a, zq_b, zq_c, zq_d, zq_e, zq_f, zq_g, zq_h, zq_i, zq_j, zq_k, zq_l, zq_m, zq_n, zq_o, zq_p, zq_q, zq_r, zq_s, zq_t, zq_u, zq_v, zq_w, zq_x, zq_y, zq_z, zq_A, zq_B, zq_C, zq_D, zq_E, zq_F, zq_G, zq_H, zq_I, zq_J, zq_K, zq_L, ↓zq_M, ↓zq_N, ↓zq_O, ↓zq_P, ↓zq_Q, ↓zq_R, zq_S, zq_T, zq_U, zq_V, zq_W, zq_X, zq_Y, zq_Z, zq_0, zq_1, zq_2, zq_3, zq_4, zq_5, ↓zq_6, ↓zq_7, ↓zq_8, ↓zq_9, ↓zq_aa, zq_ab, zq_ac, zq_ad, zq_ae, zq_af, zq_ag, ↓zq_ah, ↓zq_ai, ↓zq_aj, zq_ak, ↓zq_al, ↓zq_am, e_b1, e_b2, x_o1, x_o2, i, id']
      have b1 : E_C 231 [192, p, d] M1 = some (-1, M1) := by
        rw [r_ent (show e_rok 231 [192, p, d] = true from decide_eq_true r_ref)]
        show e_tv E_C (E_V 231) e_t231_0 [192, p, d, 0, 0] M1 = _
        unfold e_t231_0
        simp [zq_a, zq_b, zq_c, zq_d, zq_e, zq_f, zq_g, zq_h, zq_i, zq_j, zq_k, zq_l, zq_m, zq_n, zq_o, zq_p, zq_q, zq_r, zq_s, zq_t, zq_u, zq_v, zq_w, zq_x, zq_y, zq_z, zq_A, zq_B, zq_C, zq_D, zq_E, zq_F, zq_G, zq_H, zq_I, zq_J, zq_K, zq_L, ↓zq_M, ↓zq_N, ↓zq_O, ↓zq_P, ↓zq_Q, ↓zq_R, zq_S, zq_T, zq_U, zq_V, zq_W, zq_X, zq_Y, zq_Z, zq_0, zq_1, zq_2, zq_3, zq_4, zq_5, ↓zq_6, ↓zq_7, ↓zq_8, ↓zq_9, ↓zq_aa, zq_ab, zq_ac, zq_ad, zq_ae, zq_af, zq_ag, ↓zq_ah, ↓zq_ai, ↓zq_aj, zq_ak, ↓zq_al, ↓zq_am, e_b1, e_b2, x_o1, x_o2, ip, i1]
      obtain ⟨e1, e2⟩ := Prod.mk.inj (Option.some.inj (k1.symm.trans a1))
      obtain ⟨f1, f2⟩ := Prod.mk.inj (Option.some.inj (k2.symm.trans b1))
      exact ⟨e1.trans f1.symm, trivial⟩
  · rw [if_neg c] at i
    have ip := r_ip0 hW' (by rw [hG1]; exact c)
    have a1 : E_C 124 [8, p, d] M = some (-1, M) := by
      rw [s0]
      unfold e_t124_0
      simp [zq_a, zq_b, zq_c, zq_d, zq_e, zq_f, zq_g, zq_h, zq_i, zq_j, zq_k, zq_l, zq_m, zq_n, zq_o, zq_p, zq_q, zq_r, zq_s, zq_t, zq_u, zq_v, zq_w, zq_x, zq_y, zq_z, zq_A, zq_B, zq_C, zq_D, zq_E, zq_F, zq_G, zq_H, zq_I, zq_J, zq_K, zq_L, ↓zq_M, ↓zq_N, ↓zq_O, ↓zq_P, ↓zq_Q, ↓zq_R, zq_S, zq_T, zq_U, zq_V, zq_W, zq_X, zq_Y, zq_Z, zq_0, zq_1, zq_2, zq_3, zq_4, zq_5, ↓zq_6, ↓zq_7, ↓zq_8, ↓zq_9, ↓zq_aa, zq_ab, zq_ac, zq_ad, zq_ae, zq_af, zq_ag, ↓zq_ah, ↓zq_ai, ↓zq_aj, zq_ak, ↓zq_al, ↓zq_am, e_b1, e_b2, x_o1, x_o2, i]
    have b1 : E_C 231 [192, p, d] M1 = some (-1, M1) := by
      rw [r_ent (show e_rok 231 [192, p, d] = true from decide_eq_true r_ref)]
      show e_tv E_C (E_V 231) e_t231_0 [192, p, d, 0, 0] M1 = _
      unfold e_t231_0
      simp [zq_a, zq_b, zq_c, zq_d, zq_e, zq_f, zq_g, zq_h, zq_i, zq_j, zq_k, zq_l, zq_m, zq_n, zq_o, zq_p, zq_q, zq_r, zq_s, zq_t, zq_u, zq_v, zq_w, zq_x, zq_y, zq_z, zq_A, zq_B, zq_C, zq_D, zq_E, zq_F, zq_G, zq_H, zq_I, zq_J, zq_K, zq_L, ↓zq_M, ↓zq_N, ↓zq_O, ↓zq_P, ↓zq_Q, ↓zq_R, zq_S, zq_T, zq_U, zq_V, zq_W, zq_X, zq_Y, zq_Z, zq_0, zq_1, zq_2, zq_3, zq_4, zq_5, ↓zq_6, ↓zq_7, ↓zq_8, ↓zq_9, ↓zq_aa, zq_ab, zq_ac, zq_ad, zq_ae, zq_af, zq_ag, ↓zq_ah, ↓zq_ai, ↓zq_aj, zq_ak, ↓zq_al, ↓zq_am, e_b1, e_b2, x_o1, x_o2, ip]
    obtain ⟨e1, e2⟩ := Prod.mk.inj (Option.some.inj (k1.symm.trans a1))
    obtain ⟨f1, f2⟩ := Prod.mk.inj (Option.some.inj (k2.symm.trans b1))
    exact ⟨e1.trans f1.symm, trivial⟩
end AXN
end
section
/-! level E: the static tables, WALLS and SUNS in their bounds; their keepers -/
def h_E (M : EM) : Prop := (h_t2 M ∧ h_t34 M) ∧ h_F (r_G M) ∧ h_F (r_Gi M)
def h_RE (M : EM) : Prop := h_RD M ∧ h_E M
theorem h_F_cg {g g' : Int → Int} (h : h_F g) (e : ∀ i, 1120 ≤ i → i < 1174 → g' i = g i) : h_F g' := by
  obtain ⟨f1, f2⟩ := h
  refine ⟨fun k hk => ?_, fun j hj => ?_⟩
  · rw [e _ (by omega) (by omega), e _ (by omega) (by omega), e _ (by omega) (by omega)]
    exact f1 k hk
  · rw [e _ (by omega) (by omega), e _ (by omega) (by omega)]
    exact f2 j hj
theorem h_keT {W : AW} {M M' : EM} (h : h_av [(2, 0, 3), (3, 0, 7), (4, 0, 7)] W = true) (hf : a_fr W M M') (hT : h_t2 M ∧ h_t34 M) : h_t2 M' ∧ h_t34 M' := by
  have a := h_av_ok h hf
  have a2 := a (2, 0, 3) (by simp)
  have a3 := a (3, 0, 7) (by simp)
  have a4 := a (4, 0, 7) (by simp)
  obtain ⟨⟨t0, t1, t2, t3⟩, t⟩ := hT
  refine ⟨⟨(a2 0 (by decide) (by decide)).trans t0, (a2 1 (by decide) (by decide)).trans t1, (a2 2 (by decide) (by decide)).trans t2, (a2 3 (by decide) (by decide)).trans t3⟩, fun w hw => ?_⟩
  exact ⟨(a3 w (Nat.zero_le _) (by show w ≤ 7; omega)).trans (t w hw).1, (a4 w (Nat.zero_le _) (by show w ≤ 7; omega)).trans (t w hw).2⟩
theorem h_keFr {W : AW} {M M' : EM} (h : h_av [(193, 1120, 1173)] W = true) (hf : a_fr W M M') (hF : h_F (r_G M)) : h_F (r_G M') := by
  have a := h_av_ok h hf (193, 1120, 1173) List.mem_cons_self
  exact h_F_cg hF (fun i h1 h2 => a i.toNat (by show 1120 ≤ i.toNat; omega) (by show i.toNat ≤ 1173; omega))
theorem h_keFi {W : AW} {M M' : EM} (h : h_av [(194, 1120, 1173)] W = true) (hf : a_fr W M M') (hF : h_F (r_Gi M)) : h_F (r_Gi M') := by
  have a := h_av_ok h hf (194, 1120, 1173) List.mem_cons_self
  exact h_F_cg hF (fun i h1 h2 => a i.toNat (by show 1120 ≤ i.toNat; omega) (by show i.toNat ≤ 1173; omega))
theorem h_wallF {k x y h r2 : Int} {M M1 M2 : EM} (hfr : ∀ i, M1 193 i = M 193 i) (hF : h_F (r_G M)) (k2 : E_C 220 [192, k, x, y, h] M1 = some (r2, M2)) : h_F (r_G M2) := by
  have eG : r_G M1 = r_G M := funext fun i => hfr _
  rw [r_wall_eq] at k2
  by_cases q : (0 ≤ k ∧ k ≤ 9) ∧ (0 ≤ x ∧ x ≤ 19) ∧ (0 ≤ y ∧ y ≤ 11) ∧ 0 ≤ h ∧ h ≤ 30
  · rw [if_pos q] at k2
    obtain ⟨-, e2⟩ := Prod.mk.inj (Option.some.inj k2)
    obtain ⟨q1, q2, q3, q4⟩ := q
    have v : ∀ i : Int, 0 ≤ i → r_G M2 i = if i = 1120 + 3 * k + 2 then h else if i = 1120 + 3 * k + 1 then y else if i = 1120 + 3 * k then x else r_G M i := fun i hi => by
      rw [← e2, ← eG]
      unfold r_wl3 r_G
      by_cases c1 : i = 1120 + 3 * k + 2
      · rw [if_pos c1, c1, c_up_s]
      · rw [if_neg c1, c_up_n (by omega)]
        by_cases c2 : i = 1120 + 3 * k + 1
        · rw [if_pos c2, c2, c_up_s]
        · rw [if_neg c2, c_up_n (by omega)]
          by_cases c3 : i = 1120 + 3 * k
          · rw [if_pos c3, c3, c_up_s]
          · rw [if_neg c3, c_up_n (by omega)]
    obtain ⟨f1, f2⟩ := hF
    refine ⟨fun j hj => ?_, fun j hj => ?_⟩
    · obtain ⟨a, b, c⟩ := f1 j hj
      rw [v _ (by omega), v _ (by omega), v _ (by omega)]
      by_cases e : (j : Int) = k
      · rw [if_neg (show ¬ 1120 + 3 * (j : Int) = 1120 + 3 * k + 2 by omega), if_neg (show ¬ 1120 + 3 * (j : Int) = 1120 + 3 * k + 1 by omega), if_pos (show 1120 + 3 * (j : Int) = 1120 + 3 * k by omega), if_neg (show ¬ 1120 + 3 * (j : Int) + 1 = 1120 + 3 * k + 2 by omega), if_pos (show 1120 + 3 * (j : Int) + 1 = 1120 + 3 * k + 1 by omega), if_pos (show 1120 + 3 * (j : Int) + 2 = 1120 + 3 * k + 2 by omega)]
        exact ⟨q2, q3, q4⟩
      · rw [if_neg (show ¬ 1120 + 3 * (j : Int) = 1120 + 3 * k + 2 by omega), if_neg (show ¬ 1120 + 3 * (j : Int) = 1120 + 3 * k + 1 by omega), if_neg (show ¬ 1120 + 3 * (j : Int) = 1120 + 3 * k by omega), if_neg (show ¬ 1120 + 3 * (j : Int) + 1 = 1120 + 3 * k + 2 by omega), if_neg (show ¬ 1120 + 3 * (j : Int) + 1 = 1120 + 3 * k + 1 by omega), if_neg (show ¬ 1120 + 3 * (j : Int) + 1 = 1120 + 3 * k by omega), if_neg (show ¬ 1120 + 3 * (j : Int) + 2 = 1120 + 3 * k + 2 by omega), if_neg (show ¬ 1120 + 3 * (j : Int) + 2 = 1120 + 3 * k + 1 by omega), if_neg (show ¬ 1120 + 3 * (j : Int) + 2 = 1120 + 3 * k by omega)]
        exact ⟨a, b, c⟩
    · rw [v _ (by omega), v _ (by omega), if_neg (by omega), if_neg (by omega), if_neg (by omega), if_neg (by omega), if_neg (by omega), if_neg (by omega)]
      exact f2 j hj
  · rw [if_neg q] at k2
    obtain ⟨-, e2⟩ := Prod.mk.inj (Option.some.inj k2)
    rw [← e2, eG]
    exact hF
theorem h_sunF {k d l r2 : Int} {M M1 M2 : EM} (hfr : ∀ i, M1 193 i = M 193 i) (hF : h_F (r_G M)) (k2 : E_C 221 [192, k, d, l] M1 = some (r2, M2)) : h_F (r_G M2) := by
  have eG : r_G M1 = r_G M := funext fun i => hfr _
  rw [r_sun_eq] at k2
  by_cases q : (0 ≤ k ∧ k ≤ 11) ∧ (0 ≤ d ∧ d ≤ 7) ∧ 0 ≤ l ∧ l ≤ 30
  · rw [if_pos q] at k2
    obtain ⟨-, e2⟩ := Prod.mk.inj (Option.some.inj k2)
    obtain ⟨q1, q2, q3⟩ := q
    have v : ∀ i : Int, 0 ≤ i → r_G M2 i = if i = 1150 + 2 * k + 1 then l else if i = 1150 + 2 * k then d else r_G M i := fun i hi => by
      rw [← e2, ← eG]
      unfold r_sn2 r_G
      by_cases c1 : i = 1150 + 2 * k + 1
      · rw [if_pos c1, c1, c_up_s]
      · rw [if_neg c1, c_up_n (by omega)]
        by_cases c2 : i = 1150 + 2 * k
        · rw [if_pos c2, c2, c_up_s]
        · rw [if_neg c2, c_up_n (by omega)]
    obtain ⟨f1, f2⟩ := hF
    refine ⟨fun j hj => ?_, fun j hj => ?_⟩
    · rw [v _ (by omega), v _ (by omega), v _ (by omega), if_neg (by omega), if_neg (by omega), if_neg (by omega), if_neg (by omega), if_neg (by omega), if_neg (by omega)]
      exact f1 j hj
    · obtain ⟨a, b⟩ := f2 j hj
      rw [v _ (by omega), v _ (by omega)]
      by_cases e : (j : Int) = k
      · rw [if_neg (show ¬ 1150 + 2 * (j : Int) = 1150 + 2 * k + 1 by omega), if_pos (show 1150 + 2 * (j : Int) = 1150 + 2 * k by omega), if_pos (show 1150 + 2 * (j : Int) + 1 = 1150 + 2 * k + 1 by omega)]
        exact ⟨q2, q3⟩
      · rw [if_neg (show ¬ 1150 + 2 * (j : Int) = 1150 + 2 * k + 1 by omega), if_neg (show ¬ 1150 + 2 * (j : Int) = 1150 + 2 * k by omega), if_neg (show ¬ 1150 + 2 * (j : Int) + 1 = 1150 + 2 * k + 1 by omega), if_neg (show ¬ 1150 + 2 * (j : Int) + 1 = 1150 + 2 * k by omega)]
        exact ⟨a, b⟩
  · rw [if_neg q] at k2
    obtain ⟨-, e2⟩ := Prod.mk.inj (Option.some.inj k2)
    rw [← e2, eG]
    exact hF
theorem h_imageF {r2 : Int} {M M1 M2 : EM} (hfr : ∀ id i, 192 ≤ id → M1 id i = M id i) (hF : h_F (r_G M)) (k2 : E_C 255 [192] M1 = some (r2, M2)) : h_F (r_G M2) ∧ h_F (r_Gi M2) := by
  obtain ⟨-, e2⟩ := Prod.mk.inj (Option.some.inj (k2.symm.trans (r_image _)))
  refine ⟨h_F_cg hF (fun i h1 h2 => ?_), h_F_cg hF (fun i h1 h2 => ?_)⟩
  · show M2 193 i.toNat = M 193 i.toNat
    rw [e2, c_up_n (by omega), r_cp_n (by decide)]
    exact hfr _ _ (by decide)
  · show M2 194 i.toNat = M 193 i.toNat
    rw [e2, c_up_n (by omega), r_cp_t (by omega)]
    exact hfr _ _ (by decide)
theorem h_restoreF {r2 : Int} {M M1 M2 : EM} (hfr : ∀ id i, 192 ≤ id → M1 id i = M id i) (hF : h_F (r_G M)) (hFI : h_F (r_Gi M)) (k2 : E_C 256 [192] M1 = some (r2, M2)) : h_F (r_G M2) ∧ h_F (r_Gi M2) := by
  rw [r_restore] at k2
  by_cases z : M1 192 9 = 0
  · rw [if_pos z] at k2
    obtain ⟨-, e2⟩ := Prod.mk.inj (Option.some.inj k2)
    rw [← e2]
    exact ⟨h_F_cg hF (fun i _ _ => hfr _ _ (by decide)), h_F_cg hFI (fun i _ _ => hfr _ _ (by decide))⟩
  · rw [if_neg z] at k2
    obtain ⟨-, e2⟩ := Prod.mk.inj (Option.some.inj k2)
    refine ⟨h_F_cg hFI (fun i h1 h2 => ?_), h_F_cg hFI (fun i h1 h2 => ?_)⟩
    · show M2 193 i.toNat = M 194 i.toNat
      rw [← e2, r_cp_t (by omega)]
      exact hfr _ _ (by decide)
    · show M2 194 i.toNat = M 194 i.toNat
      rw [← e2, r_cp_n (by decide)]
      exact hfr _ _ (by decide)
end
