section
/-! the reference makes the PART of a STATEMENT: whether it may come, what it leaves -/
def y_Q (ks kd : Int) : Prop := y_K ks kd = 1
def y_tl (g : Int → Int) (p : Nat) (X : Nat → Int) (c : Int) (f l : Nat) : Prop := (c = 99 ∧ 2 ≤ l / 2 ∧ l / 2 ≤ 6 ∧ y_cn X f (l / 2 - 1)) ∨ (c = 114 ∧ l ≤ 8 ∧ ∀ j, j < l → y_J g p (y_Q 1) X f j) ∨ (c = 102 ∧ l ≤ 6 ∧ ∀ j, j < l → y_J g p (y_Q 3) X f j) ∨ (c = 98 ∧ l ≤ 1 ∧ ∀ j, j < l → y_J g p (y_Q 7) X f j)
def y_mo (g g' : Int → Int) (p : Nat) (X : Nat → Int) (f l : Nat) : Prop := (∀ j, j < l → g' (28 * (p : Int) + 3 + j) = X (f + j) ∧ g' (28 * X (f + j) + 1) = (p : Int) + 1) ∧ (∀ x, 0 ≤ x → (x < 28 * (p : Int) ∨ 28 * (p : Int) + 28 ≤ x) → x ≠ 1198 → (∀ j, j < l → x ≠ 28 * X (f + j) + 1) → g' x = g x)
def y_ot (g g' : Int → Int) (p : Nat) (X G D : Nat → Int) (c : Int) (f l gr : Nat) : Prop := g' 1198 = (p : Int) + 1 ∧ g' (28 * (p : Int) + 1) = 0 ∧
  (c = 99 → g' (28 * (p : Int)) = 0 ∧ g' (28 * (p : Int) + 2) = ((l / 2 : Nat) : Int) ∧ (∀ j, j < l / 2 → g' (28 * (p : Int) + 3 + j) = X (f + 2 * j) ∧ g' (28 * (p : Int) + 9 + j) = X (f + 2 * j + 1)) ∧ g' (28 * (p : Int) + 15) = 100 ∧ (∀ d, 16 ≤ d → d < 28 → g' (28 * (p : Int) + d) = 0) ∧ (∀ x, 0 ≤ x → (x < 28 * (p : Int) ∨ 28 * (p : Int) + 28 ≤ x) → x ≠ 1198 → g' x = g x)) ∧
  (c = 114 → g' (28 * (p : Int)) = 1 ∧ g' (28 * (p : Int) + 2) = l ∧ y_mo g g' p X f l ∧ (∀ j, j < l → g' (28 * (p : Int) + 11 + j) = G (f + j) ∧ g' (28 * (p : Int) + 20 + G (f + j)) = D (f + j)) ∧ g' (28 * (p : Int) + 19) = gr ∧ y_gp G f l ((gr : Int) - 1) ∧ gr ≤ l) ∧
  (c = 102 → g' (28 * (p : Int)) = 2 ∧ g' (28 * (p : Int) + 2) = l ∧ y_mo g g' p X f l) ∧
  (c = 98 → g' (28 * (p : Int)) = 3 ∧ g' (28 * (p : Int) + 2) = l ∧ y_mo g g' p X f l ∧ g' (28 * (p : Int) + 4) = 0 ∧ g' (28 * (p : Int) + 5) = 5 ∧ g' (28 * (p : Int) + 6) = 1 ∧ g' (28 * (p : Int) + 7) = 0 ∧ g' (28 * (p : Int) + 8) = 0)
def y_MK (b : Nat → Int) (n k : Nat) (M : EM) (p : Nat) (X G D : Nat → Int) (f : Nat) (o : EO) : Prop := ∃ r M' k' l gr, o = some (r, M') ∧ y_fr M M' ∧ y_B b n k' M' ∧ k < k' ∧ w_T b k' 2 = 0 ∧ w_T b k' 7 = w_T b k 7 + 1 ∧ w_T b k' 8 = ((f + l : Nat) : Int) ∧ w_T b k' 6 = ((gr : Nat) : Int) ∧ ((r = 1 ∧ y_tl (r_G M) p X (b k) f l ∧ y_ot (r_G M) (r_G M') p X G D (b k) f l gr) ∨ (r = 0 ∧ ¬ y_tl (r_G M) p X (b k) f l))
theorem y_J_eq {g g0 : Int → Int} {p : Nat} {Q : Int → Prop} {X : Nat → Int} {f j : Nat} {kd : Int} (h : y_zk g g0 p kd) : y_J g0 p Q X f j ↔ y_J g p Q X f j := by
  unfold y_J
  obtain ⟨-, -, h3⟩ := h
  refine ⟨fun ⟨a, c, d, e⟩ => ?_, fun ⟨a, c, d, e⟩ => ?_⟩
  · rw [h3 _ (by omega) (Or.inl (by omega))] at c d
    exact ⟨a, c, d, e⟩
  · rw [← h3 _ (by omega) (Or.inl (by omega))] at c d
    exact ⟨a, c, d, e⟩
section YQ2
variable {b : Nat → Int} {n k : Nat} {N M : EM} {p : Nat} {X G D : Nat → Int} {f : Nat}
theorem y_fin {x2 x3 r : Int} {k' : Nat} (hp : p < 40) (hB : y_B b n k' M) (hk : k' < n) (hf : y_fr N M) (h1198 : r_G M 1198 = p) : ∃ M', E_V 188 189 [192, (p : Int), x2, x3, r] M = some (r, M') ∧ y_B b n (k' + 1) M' ∧ y_fr N M' ∧ r_G M' 1198 = (p : Int) + 1 ∧ ∀ x, 0 ≤ x → x ≠ 1198 → r_G M' x = r_G M x := by
  obtain ⟨o1, o2⟩ := y_on hB hk
  have f1 := y_fr_t hf o1
  have G1 := y_G_t o1
  have h15 := hB.2.1
  obtain ⟨M1, hM1⟩ : ∃ M1, e_up M 192 15 ((k' : Int) + 1) = M1 := ⟨_, rfl⟩
  rw [hM1] at o2 f1 G1
  have l : e_op 60 [193, 1198] M1 = some (p : Int) := (r_rd (by decide) (by decide)).trans (congrArg some (by rw [G1]; exact h1198))
  have s1 : ∀ v, e_st 100 [193, 1198, v] M1 = some (e_up M1 193 1198 v) := fun v => r_stw (i := 1198) (by decide) (by decide)
  have BN := y_Bw (i := 1198) (v := (p : Int) + 1) o2 ⟨by omega, by omega⟩
  have fN := y_frw (i := 1198) (v := (p : Int) + 1) f1
  have Gs : r_G (e_up M1 193 1198 ((p : Int) + 1)) 1198 = (p : Int) + 1 := r_G_s (i := 1198)
  have Gn : ∀ x, x ≠ 1198 → r_G (e_up M1 193 1198 ((p : Int) + 1)) x = r_G M1 x := fun x hx => r_G_n (i := 1198) (by decide) hx
  have w2 : e_w ((p : Int) + 1) = (p : Int) + 1 := by
    clear l s1 BN fN Gs Gn h1198
    exact a_w_id (by omega) (by omega)
  exact ⟨_, y_m189 h15 (y_k1 hB) hM1 l w2 s1, BN, fN, Gs, fun x _ hx => (Gn x hx).trans (by rw [G1])⟩
theorem y_kw (hp : p < 40) : e_w (28 * (p : Int)) = 28 * (p : Int) ∧ e_w (28 * (p : Int) + 5) = 28 * (p : Int) + 5 ∧ e_w (28 * (p : Int) + 6) = 28 * (p : Int) + 6 ∧ e_w (28 * (p : Int) + 15) = 28 * (p : Int) + 15 := by
  refine ⟨?_, ?_, ?_, ?_⟩ <;> exact a_w_id (by omega) (by omega)
/-- the row is empty, the KIND is set -/
theorem y_kind (hp : p < 40) {g : Int → Int} {Z : EM} (hB : y_B b n k Z) (hf : y_fr M Z) (h0 : ∀ e : Int, 0 ≤ e → e < 28 → r_G Z (28 * (p : Int) + e) = 0) (ho : ∀ x, 0 ≤ x → (x < 28 * (p : Int) ∨ 28 * (p : Int) + 28 ≤ x) → r_G Z x = g x) {kd : Int} (hkd : 0 ≤ kd ∧ kd ≤ 3) : y_B b n k (e_up Z 193 (28 * (p : Int)).toNat kd) ∧ y_fr M (e_up Z 193 (28 * (p : Int)).toNat kd) ∧ y_zk g (r_G (e_up Z 193 (28 * (p : Int)).toNat kd)) p kd := by
  have Gn : ∀ x, 0 ≤ x → x ≠ 28 * (p : Int) → r_G (e_up Z 193 (28 * (p : Int)).toNat kd) x = r_G Z x := fun x x0 hx => by
    unfold r_G
    rw [c_up_n (by omega)]
  refine ⟨y_Bw hB ⟨by omega, by omega⟩, y_frw hf, r_G_s, fun d d0 d1 => ?_, fun x x0 hx => ?_⟩
  · rw [Gn _ (by omega) (by omega)]
    exact h0 d (by omega) d1
  · rw [Gn _ x0 (by omega)]
    exact ho x x0 hx
theorem y_mo_of {g g0 g1 g2 : Int → Int} {l : Nat} {kd : Int} (hp : p < 40) (hz : y_zk g g0 p kd) (h : y_mr g0 g1 p X f l) (hX : ∀ j, j < l → 0 ≤ X (f + j) ∧ X (f + j) < p) (hl : l ≤ 8) (h2 : ∀ x, 0 ≤ x → x ≠ 1198 → (x < 28 * (p : Int) + 11 → x ≠ 28 * (p : Int) + 5 → x ≠ 28 * (p : Int) + 6 → g2 x = g1 x) ∧ (28 * (p : Int) + 28 ≤ x → g2 x = g1 x)) (h3 : l ≤ 2 ∨ ∀ x, 0 ≤ x → x ≠ 1198 → g2 x = g1 x) : y_mo g g2 p X f l := by
  obtain ⟨a1, a2⟩ := h
  refine ⟨fun j hj => ?_, fun x x0 hx hn hm => ?_⟩
  · obtain ⟨c1, c2⟩ := a1 j hj
    have c3 := hX j hj
    refine ⟨?_, ?_⟩
    · rcases h3 with h3 | h3
      · exact ((h2 _ (by omega) (by omega)).1 (by omega) (by omega) (by omega)).trans c1
      · exact (h3 _ (by omega) (by omega)).trans c1
    · exact ((h2 _ (by omega) (by omega)).1 (by omega) (by omega) (by omega)).trans c2
  · rw [← hz.2.2 x x0 hx, ← a2 x x0 hx hm]
    rcases hx with hx | hx
    · exact (h2 x x0 hn).1 (by omega) (by omega) (by omega)
    · exact (h2 x x0 hn).2 hx
theorem y_mkC (hA : w_A b n) (hz : w_T b n 2 = 0) (hp : p < 40) (hX : y_X b n X) {x4 : Int} {Z : EM} (hB : y_B b n k Z) (hk : k < n) (hf : y_fr M Z) (h0 : ∀ e : Int, 0 ≤ e → e < 28 → r_G Z (28 * (p : Int) + e) = 0) (ho : ∀ x, 0 ≤ x → (x < 28 * (p : Int) ∨ 28 * (p : Int) + 28 ≤ x) → r_G Z x = r_G M x) (h2 : w_T b k 2 = 0) (hc : b k = 99) (h8 : w_T b k 8 = (f : Int)) (hpc : r_G M 1198 = p) : y_MK b n k M p X G D f (E_V 188 19 [192, (p : Int), 28, 0, x4] Z) := by
  obtain ⟨a1, a2, a3, a4, a5, a6, a7, a8⟩ := y_bgn (w_Al hA (Nat.le_of_lt hk)) h2 (Or.inl hc)
  obtain ⟨B0, f0, z0⟩ := y_kind (kd := 0) hp hB hf h0 ho ⟨by decide, by decide⟩
  have ks := r_sign (y_ty hB)
  rw [y_sg hB, y_sb hk, hc] at ks
  obtain ⟨Z0, hZ0⟩ : ∃ Z0, e_up Z 193 (28 * (p : Int)).toNat 0 = Z0 := ⟨_, rfl⟩
  rw [hZ0] at B0 f0 z0
  obtain ⟨r, M', k', l, u1, u2, u3, u4, u5, u6, u7, u8, u9, u10, u11, u12, u13, u14⟩ := y_c4 (g0 := r_G Z0) (f := f) (i := 0) hA hz hp hX _ k Z0 0 1 0 0 (Nat.le_refl _) B0 hk f0 a2 (a3.trans hc) a4 a5 (by omega) ⟨by decide, Or.inl ⟨rfl, rfl, by decide, fun j hj => absurd hj (Nat.not_lt_zero _), fun _ _ _ => rfl, fun _ _ _ _ => rfl⟩⟩
  have kC : E_C 184 [192, (p : Int)] Z0 = some (r, M') := by
    rw [← u1]
    rw [r_ent (show e_rok 184 [192, (p : Int)] = true from decide_eq_true r_ref)]
    show e_tv E_C (E_V 184) e_t184_0 [192, (p : Int), 0, 0, 0, 0] Z0 = _
    unfold e_t184_0
    simp [zq_a, zq_b, zq_c, zq_d, zq_e, zq_f, zq_g, zq_h, zq_i, zq_j, zq_k, zq_l, zq_m, zq_n, zq_o, zq_p, zq_q, zq_r, zq_s, zq_t, zq_u, zq_v, zq_w, zq_x, zq_y, zq_z, zq_A, zq_B, zq_C, zq_D, zq_E, zq_F, zq_G, zq_H, zq_I, zq_J, zq_K, zq_L, ↓zq_M, ↓zq_N, ↓zq_O, ↓zq_P, ↓zq_Q, ↓zq_R, zq_S, zq_T, zq_U, zq_V, zq_W, zq_X, zq_Y, zq_Z, zq_0, zq_1, zq_2, zq_3, zq_4, zq_5, ↓zq_6, ↓zq_7, ↓zq_8, ↓zq_9, ↓zq_aa, zq_ab, zq_ac, zq_ad, zq_ae, zq_af, zq_ag, ↓zq_ah, ↓zq_ai, ↓zq_aj, zq_ak, ↓zq_al, ↓zq_am, e_b1, e_b2, x_o1, x_o2]
  have b1 : 0 ≤ 28 * (p : Int) ∧ 28 * (p : Int) < 1330 := by omega
  have b2 : 0 ≤ 28 * (p : Int) + 15 ∧ 28 * (p : Int) + 15 < 1330 := by omega
  have hk15 : 28 * (p : Int) + 15 ≥ 1 := by omega
  have s1 := fun v => r_stw (i := 28 * (p : Int)) (v := v) (M := Z) b1.1 b1.2
  have s2 := fun v => r_stw (i := 28 * (p : Int) + 15) (v := v) (M := M') b2.1 b2.2
  have Gs : r_G (e_up M' 193 (28 * (p : Int) + 15).toNat 100) (28 * (p : Int) + 15) = 100 := r_G_s
  have Gn : ∀ x, x ≠ 28 * (p : Int) + 15 → r_G (e_up M' 193 (28 * (p : Int) + 15).toNat 100) x = r_G M' x := fun x hx => r_G_n hk15 hx
  have B1 := y_Bw (i := 28 * (p : Int) + 15) (v := 100) u2 ⟨by decide, by decide⟩
  have f1 := y_frw (i := 28 * (p : Int) + 15) (v := 100) u3
  obtain ⟨s1', s2', s3', s4', s5', s6', s7', s8'⟩ := y_smc (w_Al hA (Nat.le_of_lt u5)) u7 u5 u6 u8 (by omega)
  have tl : y_tl (r_G M) p X (b k) f (2 * l) ↔ (2 ≤ l ∧ l ≤ 6 ∧ y_cn X f (l - 1)) := by
    unfold y_tl
    rw [hc, show 2 * l / 2 = l by omega]
    refine ⟨fun h => ?_, fun h => Or.inl ⟨rfl, h⟩⟩
    rcases h with h | h | h | h
    · exact h.2
    · exact absurd h.1 (by decide)
    · exact absurd h.1 (by decide)
    · exact absurd h.1 (by decide)
  have e15 : E_V 188 19 [192, (p : Int), 28, 0, x4] Z = E_V 188 189 [192, (p : Int), 99, 0, r] (e_up M' 193 (28 * (p : Int) + 15).toNat 100) := by
    obtain ⟨w1, -, -, w4⟩ := y_kw hp
    rw [← hZ0] at kC
    exact (y_mC ks w1 s1 kC w4 s2).trans (y_m159n (by decide))
  generalize e_up M' 193 (28 * (p : Int) + 15).toNat 100 = N1 at Gs Gn B1 f1 e15
  rcases u14 with ⟨e, v1, v2, v3, v4, v5, v6, v7⟩ | ⟨e, v1⟩
  · have h1198 : r_G N1 1198 = p := by
      rw [Gn _ (by omega), v5 _ (by decide) (Or.inr (by omega)), z0.2.2 _ (by decide) (Or.inr (by omega))]
      exact hpc
    obtain ⟨M2, y1, y2, y3, y4, y5⟩ := y_fin (x2 := 99) (x3 := 0) (r := r) hp B1 u5 f1 h1198
    obtain ⟨gr, hgr⟩ : ∃ gr : Nat, w_T b (k' + 1) 6 = (gr : Int) := ⟨(w_T b (k' + 1) 6).toNat, by
      have := w_Ii s1'
      unfold w_I at this
      omega⟩
    refine ⟨r, M2, k' + 1, 2 * l, gr, e15.trans y1, y3, y2, by omega, s2', by omega, by omega, hgr, Or.inl ⟨e, tl.mpr ⟨v1, v2, v3⟩, y4, ?_, fun _ => ⟨?_, ?_, fun j hj => ?_, ?_, fun d d0 d1 => ?_, fun x x0 hx hn => ?_⟩, fun h => absurd (hc.symm.trans h) (by decide), fun h => absurd (hc.symm.trans h) (by decide), fun h => absurd (hc.symm.trans h) (by decide)⟩⟩
    · rw [y5 _ (by omega) (by omega), Gn _ (by omega), v6 1 (by decide) (by decide) (by omega)]
      exact z0.2.1 1 (by decide) (by decide)
    · rw [y5 _ (by omega) (by omega), Gn _ (by omega)]
      have := v6 0 (by decide) (by decide) (by omega)
      rw [Int.add_zero] at this
      rw [this]
      exact z0.1
    · rw [y5 _ (by omega) (by omega), Gn _ (by omega), v7, show 2 * l / 2 = l by omega]
    · rw [show 2 * l / 2 = l by omega] at hj
      obtain ⟨q1, q2⟩ := v4 j hj
      exact ⟨(y5 _ (by omega) (by omega)).trans ((Gn _ (by omega)).trans q1), (y5 _ (by omega) (by omega)).trans ((Gn _ (by omega)).trans q2)⟩
    · rw [y5 _ (by omega) (by omega), Gs]
    · rw [y5 _ (by omega) (by omega), Gn _ (by omega), v6 d (by omega) d1 (by omega)]
      exact z0.2.1 d (by omega) d1
    · rw [y5 _ x0 hn, Gn _ (by omega), v5 x x0 hx]
      exact z0.2.2 x x0 hx
  · have T : ∃ M2, E_V 188 189 [192, (p : Int), 99, 0, r] N1 = some (r, M2) ∧ y_B b n (k' + 1) M2 ∧ y_fr M M2 := by
      obtain ⟨o1, o2⟩ := y_on B1 u5
      have f2 := y_fr_t f1 o1
      have h15 := B1.2.1
      obtain ⟨M1, hM1⟩ : ∃ M1, e_up N1 192 15 ((k' : Int) + 1) = M1 := ⟨_, rfl⟩
      rw [hM1] at o2 f2
      have ll : e_op 60 [193, 1198] M1 = some (r_G M1 1198) := r_rd (by decide) (by decide)
      have st : ∀ v, e_st 100 [193, 1198, v] M1 = some (e_up M1 193 1198 v) := fun v => r_stw (i := 1198) (by decide) (by decide)
      refine ⟨_, y_m189 h15 (y_k1 B1) hM1 ll rfl st, y_Bw (i := 1198) o2 ?_, y_frw (i := 1198) f2⟩
      unfold e_w
      omega
    obtain ⟨M2, y1, y2, y3⟩ := T
    obtain ⟨gr, hgr⟩ : ∃ gr : Nat, w_T b (k' + 1) 6 = (gr : Int) := ⟨(w_T b (k' + 1) 6).toNat, by
      have := w_Ii s1'
      unfold w_I at this
      omega⟩
    exact ⟨r, M2, k' + 1, 2 * l, gr, e15.trans y1, y3, y2, by omega, s2', by omega, by omega, hgr, Or.inr ⟨e, fun h => v1 (tl.mp h)⟩⟩
end YQ2
end
section
/-! the reference makes the PART of a STATEMENT: ROWs, FIELDs, BOXes -/
section YQ3
variable {b : Nat → Int} {n k : Nat} {N M : EM} {p : Nat} {X G D : Nat → Int} {f : Nat}
theorem y_fin0 {x2 x3 r : Int} {k' : Nat} {N1 : EM} (B1 : y_B b n k' N1) (u5 : k' < n) (f1 : y_fr M N1) : ∃ M2, E_V 188 189 [192, (p : Int), x2, x3, r] N1 = some (r, M2) ∧ y_B b n (k' + 1) M2 ∧ y_fr M M2 := by
  obtain ⟨o1, o2⟩ := y_on B1 u5
  have f2 := y_fr_t f1 o1
  have h15 := B1.2.1
  obtain ⟨M1, hM1⟩ : ∃ M1, e_up N1 192 15 ((k' : Int) + 1) = M1 := ⟨_, rfl⟩
  rw [hM1] at o2 f2
  have ll : e_op 60 [193, 1198] M1 = some (r_G M1 1198) := r_rd (by decide) (by decide)
  have st : ∀ v, e_st 100 [193, 1198, v] M1 = some (e_up M1 193 1198 v) := fun v => r_stw (i := 1198) (by decide) (by decide)
  refine ⟨_, y_m189 h15 (y_k1 B1) hM1 ll rfl st, y_Bw (i := 1198) o2 ?_, y_frw (i := 1198) f2⟩
  unfold e_w
  omega
theorem y_gpb {G : Nat → Int} {f l gr j : Nat} (h : y_gp G f l ((gr : Int) - 1)) (hg : gr ≤ l) (hl : l ≤ 8) (hj : j < l) : 0 ≤ G (f + j) ∧ G (f + j) ≤ 8 := by
  obtain ⟨h1, h2, h3⟩ := h
  have up : ∀ i, i < l → 0 ≤ G (f + i) ∧ G (f + i) ≤ i := by
    intro i
    induction i with
    | zero =>
      intro hi
      have := (h2 hi).1
      show 0 ≤ G f ∧ G f ≤ _
      omega
    | succ i ih =>
      intro hi
      have a := ih (by omega)
      have c := h3 i hi
      omega
  have := up j hj
  omega
theorem y_gr6 {k : Nat} (hA : w_A b k) : ∃ gr : Nat, w_T b k 6 = (gr : Int) := ⟨(w_T b k 6).toNat, by
  have := w_Ii hA
  unfold w_I at this
  omega⟩
theorem y_mkR (hA : w_A b n) (hz : w_T b n 2 = 0) (hp : p < 40) (hX : y_X b n X) (hXG : y_XG b n G D) {x4 : Int} {Z : EM} (hB : y_B b n k Z) (hk : k < n) (hf : y_fr M Z) (h0 : ∀ e : Int, 0 ≤ e → e < 28 → r_G Z (28 * (p : Int) + e) = 0) (ho : ∀ x, 0 ≤ x → (x < 28 * (p : Int) ∨ 28 * (p : Int) + 28 ≤ x) → r_G Z x = r_G M x) (h2 : w_T b k 2 = 0) (hc : b k = 114) (h8 : w_T b k 8 = (f : Int)) (hpc : r_G M 1198 = p) : y_MK b n k M p X G D f (E_V 188 19 [192, (p : Int), 28, 0, x4] Z) := by
  obtain ⟨a1, a2, a3, a4, a5, a6, a7, a8⟩ := y_bgn (w_Al hA (Nat.le_of_lt hk)) h2 (Or.inr (Or.inl hc))
  obtain ⟨B0, f0, z0⟩ := y_kind (kd := 1) hp hB hf h0 ho ⟨by decide, by decide⟩
  have ks := r_sign (y_ty hB)
  rw [y_sg hB, y_sb hk, hc] at ks
  obtain ⟨Z0, hZ0⟩ : ∃ Z0, e_up Z 193 (28 * (p : Int)).toNat 1 = Z0 := ⟨_, rfl⟩
  rw [hZ0] at B0 f0 z0
  have hmay := y_may2 (p := (p : Int)) (ks := 1) (by omega)
  obtain ⟨r, M', k', l, gr, u1, u2, u3, u4, u5, u6, u7, u8, u9, u10, u11, u12, u13, u14, u15, u16⟩ := y_r7 (g0 := r_G Z0) (f := f) (N := M) (Q := y_Q 1) hA hz hp hmay hX hXG _ k (Nat.le_refl _) Z0 0 1 0 0 0 0 0 B0 hk f0 a2 (a3.trans hc) a5 (by omega) (by omega) ⟨by decide, Or.inl ⟨rfl, rfl, by decide, fun j hj => absurd hj (Nat.not_lt_zero _), ⟨fun j hj => absurd hj (Nat.not_lt_zero _), fun _ _ _ _ => rfl⟩, fun j hj => absurd hj (Nat.not_lt_zero _), fun _ _ _ _ => rfl⟩⟩ (fun j hj => absurd hj (Nat.not_lt_zero _)) ⟨fun _ => rfl, fun h => absurd h (Nat.lt_irrefl _), fun j hj => absurd hj (Nat.not_lt_zero _)⟩ (Nat.le_refl _) (fun _ _ _ => rfl)
  have u1' : E_V 186 7 [192, (p : Int), 0, 0, 1, 0, 0, 0] Z0 = some (r, M') := u1
  have kC : E_C 186 [192, (p : Int)] Z0 = some (r, M') := by
    rw [← u1']
    rw [r_ent (show e_rok 186 [192, (p : Int)] = true from decide_eq_true r_ref)]
    show e_tv E_C (E_V 186) e_t186_0 [192, (p : Int), 0, 0, 0, 0, 0, 0] Z0 = _
    unfold e_t186_0
    simp [zq_a, zq_b, zq_c, zq_d, zq_e, zq_f, zq_g, zq_h, zq_i, zq_j, zq_k, zq_l, zq_m, zq_n, zq_o, zq_p, zq_q, zq_r, zq_s, zq_t, zq_u, zq_v, zq_w, zq_x, zq_y, zq_z, zq_A, zq_B, zq_C, zq_D, zq_E, zq_F, zq_G, zq_H, zq_I, zq_J, zq_K, zq_L, ↓zq_M, ↓zq_N, ↓zq_O, ↓zq_P, ↓zq_Q, ↓zq_R, zq_S, zq_T, zq_U, zq_V, zq_W, zq_X, zq_Y, zq_Z, zq_0, zq_1, zq_2, zq_3, zq_4, zq_5, ↓zq_6, ↓zq_7, ↓zq_8, ↓zq_9, ↓zq_aa, zq_ab, zq_ac, zq_ad, zq_ae, zq_af, zq_ag, ↓zq_ah, ↓zq_ai, ↓zq_aj, zq_ak, ↓zq_al, ↓zq_am, e_b1, e_b2, x_o1, x_o2]
  have b1 : 0 ≤ 28 * (p : Int) ∧ 28 * (p : Int) < 1330 := by omega
  have s1 := fun v => r_stw (i := 28 * (p : Int)) (v := v) (M := Z) b1.1 b1.2
  obtain ⟨s1', s2', s3', s4', s5', s6', s7', s8'⟩ := y_smc (w_Al hA (Nat.le_of_lt u5)) u7 u5 u6 u8 (by omega)
  have tl : y_tl (r_G M) p X (b k) f l ↔ (l ≤ 8 ∧ ∀ j, j < l → y_J (r_G Z0) p (y_Q 1) X f j) := by
    unfold y_tl
    rw [hc]
    refine ⟨fun h => ?_, fun h => Or.inr (Or.inl ⟨rfl, h.1, fun j hj => (y_J_eq z0).mp (h.2 j hj)⟩)⟩
    rcases h with h | h | h | h
    · exact absurd h.1 (by decide)
    · exact ⟨h.2.1, fun j hj => (y_J_eq z0).mpr (h.2.2 j hj)⟩
    · exact absurd h.1 (by decide)
    · exact absurd h.1 (by decide)
  have e15 : E_V 188 19 [192, (p : Int), 28, 0, x4] Z = E_V 188 189 [192, (p : Int), 114, 1, r] M' := by
    obtain ⟨w1, -⟩ := y_kw hp
    rw [← hZ0] at kC
    exact (y_mR ks w1 s1 kC).trans (y_m159n (by decide))
  rcases u16 with ⟨e, v1, v2, v3, v4, v5, v6, v7, v8⟩ | ⟨e, j, v1, v2⟩
  · have hXp : ∀ j, j < l → 0 ≤ X (f + j) ∧ X (f + j) < p := fun j hj => (v2 j hj).1
    have h1198 : r_G M' 1198 = p := by
      rw [v3.2 _ (by decide) (Or.inr (by omega)) (fun j hj => by have := hXp j hj; omega), z0.2.2 _ (by decide) (Or.inr (by omega))]
      exact hpc
    obtain ⟨M2, y1, y2, y3, y4, y5⟩ := y_fin (x2 := 114) (x3 := 1) (r := r) hp u2 u5 u3 h1198
    have MO := y_mo_of (g2 := r_G M2) hp z0 v3 hXp v1 (fun x x0 hn => ⟨fun _ _ _ => y5 x x0 hn, fun _ => y5 x x0 hn⟩) (Or.inr (fun x x0 hn => y5 x x0 hn))
    have gG : ∀ j, j < l → 0 ≤ G (f + j) ∧ G (f + j) ≤ 8 := fun j hj => y_gpb u14 u15 v1 hj
    refine ⟨r, M2, k' + 1, l, gr, e15.trans y1, y3, y2, by omega, s2', by omega, by omega, by omega, Or.inl ⟨e, tl.mpr ⟨v1, v2⟩, y4, ?_, fun h => absurd (hc.symm.trans h) (by decide), fun _ => ⟨?_, ?_, MO, fun j hj => ?_, ?_, u14, u15⟩, fun h => absurd (hc.symm.trans h) (by decide), fun h => absurd (hc.symm.trans h) (by decide)⟩⟩
    · rw [y5 _ (by omega) (by omega), v6]
      exact z0.2.1 1 (by decide) (by decide)
    · rw [y5 _ (by omega) (by omega), v5]
      exact z0.1
    · rw [y5 _ (by omega) (by omega), v7]
    · obtain ⟨q1, q2⟩ := v4 j hj
      have := gG j hj
      exact ⟨(y5 _ (by omega) (by omega)).trans q1, (y5 _ (by omega) (by omega)).trans q2⟩
    · rw [y5 _ (by omega) (by omega), v8]
  · obtain ⟨M2, y1, y2, y3⟩ := y_fin0 (p := p) (x2 := 114) (x3 := 1) (r := r) u2 u5 u3
    exact ⟨r, M2, k' + 1, l, gr, e15.trans y1, y3, y2, by omega, s2', by omega, by omega, by omega, Or.inr ⟨e, fun h => by
      obtain ⟨h1, h2⟩ := tl.mp h
      rcases v2 with v2 | v2
      · exact v2 (h2 j v1)
      · omega⟩⟩
theorem y_mkF (hA : w_A b n) (hz : w_T b n 2 = 0) (hp : p < 40) (hX : y_X b n X) {x4 : Int} {Z : EM} (hB : y_B b n k Z) (hk : k < n) (hf : y_fr M Z) (h0 : ∀ e : Int, 0 ≤ e → e < 28 → r_G Z (28 * (p : Int) + e) = 0) (ho : ∀ x, 0 ≤ x → (x < 28 * (p : Int) ∨ 28 * (p : Int) + 28 ≤ x) → r_G Z x = r_G M x) (h2 : w_T b k 2 = 0) (hc : b k = 102) (h8 : w_T b k 8 = (f : Int)) (hpc : r_G M 1198 = p) : y_MK b n k M p X G D f (E_V 188 19 [192, (p : Int), 28, 0, x4] Z) := by
  obtain ⟨a1, a2, a3, a4, a5, a6, a7, a8⟩ := y_bgn (w_Al hA (Nat.le_of_lt hk)) h2 (Or.inr (Or.inr (Or.inl hc)))
  obtain ⟨B0, f0, z0⟩ := y_kind (kd := 2) hp hB hf h0 ho ⟨by decide, by decide⟩
  have ks := r_sign (y_ty hB)
  rw [y_sg hB, y_sb hk, hc] at ks
  obtain ⟨Z0, hZ0⟩ : ∃ Z0, e_up Z 193 (28 * (p : Int)).toNat 2 = Z0 := ⟨_, rfl⟩
  rw [hZ0] at B0 f0 z0
  have hmay := y_may2 (p := (p : Int)) (ks := 3) (by omega)
  obtain ⟨r, M', k', l, u1, u2, u3, u4, u5, u6, u7, u8, u9, u10, u11, u12, u13⟩ := y_over (g0 := r_G Z0) (f := f) (N := M) (most := 6) (Q := y_Q 3) hA hz hp (by decide) hmay hX _ k Z0 0 1 0 0 (Nat.le_refl _) B0 hk f0 a2 (Or.inl (a3.trans hc)) a5 (by omega) ⟨by decide, Or.inl ⟨rfl, rfl, by decide, fun j hj => absurd hj (Nat.not_lt_zero _), ⟨fun j hj => absurd hj (Nat.not_lt_zero _), fun _ _ _ _ => rfl⟩, fun _ _ _ _ => rfl⟩⟩ (fun _ _ _ => rfl)
  have u1' : E_V 187 6 [192, (p : Int), 6, 3, 0, 1, 0] Z0 = some (r, M') := u1
  have kC : E_C 187 [192, (p : Int), 6, 3] Z0 = some (r, M') := by
    rw [← u1']
    rw [r_ent (show e_rok 187 [192, (p : Int), 6, 3] = true from decide_eq_true r_ref)]
    show e_tv E_C (E_V 187) e_t187_0 [192, (p : Int), 6, 3, 0, 0, 0] Z0 = _
    unfold e_t187_0
    simp [zq_a, zq_b, zq_c, zq_d, zq_e, zq_f, zq_g, zq_h, zq_i, zq_j, zq_k, zq_l, zq_m, zq_n, zq_o, zq_p, zq_q, zq_r, zq_s, zq_t, zq_u, zq_v, zq_w, zq_x, zq_y, zq_z, zq_A, zq_B, zq_C, zq_D, zq_E, zq_F, zq_G, zq_H, zq_I, zq_J, zq_K, zq_L, ↓zq_M, ↓zq_N, ↓zq_O, ↓zq_P, ↓zq_Q, ↓zq_R, zq_S, zq_T, zq_U, zq_V, zq_W, zq_X, zq_Y, zq_Z, zq_0, zq_1, zq_2, zq_3, zq_4, zq_5, ↓zq_6, ↓zq_7, ↓zq_8, ↓zq_9, ↓zq_aa, zq_ab, zq_ac, zq_ad, zq_ae, zq_af, zq_ag, ↓zq_ah, ↓zq_ai, ↓zq_aj, zq_ak, ↓zq_al, ↓zq_am, e_b1, e_b2, x_o1, x_o2]
  have b1 : 0 ≤ 28 * (p : Int) ∧ 28 * (p : Int) < 1330 := by omega
  have s1 := fun v => r_stw (i := 28 * (p : Int)) (v := v) (M := Z) b1.1 b1.2
  obtain ⟨s1', s2', s3', s4', s5', s6', s7', s8'⟩ := y_smc (w_Al hA (Nat.le_of_lt u5)) u7 u5 u6 u8 (by omega)
  have tl : y_tl (r_G M) p X (b k) f l ↔ (l ≤ 6 ∧ ∀ j, j < l → y_J (r_G Z0) p (y_Q 3) X f j) := by
    unfold y_tl
    rw [hc]
    refine ⟨fun h => ?_, fun h => Or.inr (Or.inr (Or.inl ⟨rfl, h.1, fun j hj => (y_J_eq z0).mp (h.2 j hj)⟩))⟩
    rcases h with h | h | h | h
    · exact absurd h.1 (by decide)
    · exact absurd h.1 (by decide)
    · exact ⟨h.2.1, fun j hj => (y_J_eq z0).mpr (h.2.2 j hj)⟩
    · exact absurd h.1 (by decide)
  have e15 : E_V 188 19 [192, (p : Int), 28, 0, x4] Z = E_V 188 189 [192, (p : Int), 102, 2, r] M' := by
    obtain ⟨w1, -⟩ := y_kw hp
    rw [← hZ0] at kC
    exact (y_mF ks w1 s1 kC).trans (y_m159n (by decide))
  obtain ⟨gr, hgr⟩ := y_gr6 s1'
  rcases u13 with ⟨e, v1, v2, v3, v4, v5⟩ | ⟨e, j, v1, v2⟩
  · have hXp : ∀ j, j < l → 0 ≤ X (f + j) ∧ X (f + j) < p := fun j hj => (v2 j hj).1
    have h1198 : r_G M' 1198 = p := by
      rw [v3.2 _ (by decide) (Or.inr (by omega)) (fun j hj => by have := hXp j hj; omega), z0.2.2 _ (by decide) (Or.inr (by omega))]
      exact hpc
    obtain ⟨M2, y1, y2, y3, y4, y5⟩ := y_fin (x2 := 102) (x3 := 2) (r := r) hp u2 u5 u3 h1198
    have MO := y_mo_of (g2 := r_G M2) hp z0 v3 hXp (by omega) (fun x x0 hn => ⟨fun _ _ _ => y5 x x0 hn, fun _ => y5 x x0 hn⟩) (Or.inr (fun x x0 hn => y5 x x0 hn))
    refine ⟨r, M2, k' + 1, l, gr, e15.trans y1, y3, y2, by omega, s2', by omega, by omega, hgr, Or.inl ⟨e, tl.mpr ⟨v1, v2⟩, y4, ?_, fun h => absurd (hc.symm.trans h) (by decide), fun h => absurd (hc.symm.trans h) (by decide), fun _ => ⟨?_, ?_, MO⟩, fun h => absurd (hc.symm.trans h) (by decide)⟩⟩
    · rw [y5 _ (by omega) (by omega), v4 1 (by decide) (by decide) (by omega)]
      exact z0.2.1 1 (by decide) (by decide)
    · rw [y5 _ (by omega) (by omega)]
      have := v4 0 (by decide) (by decide) (by omega)
      rw [Int.add_zero] at this
      rw [this]
      exact z0.1
    · rw [y5 _ (by omega) (by omega), v5]
  · obtain ⟨M2, y1, y2, y3⟩ := y_fin0 (p := p) (x2 := 102) (x3 := 2) (r := r) u2 u5 u3
    exact ⟨r, M2, k' + 1, l, gr, e15.trans y1, y3, y2, by omega, s2', by omega, by omega, hgr, Or.inr ⟨e, fun h => by
      obtain ⟨h1, h2⟩ := tl.mp h
      rcases v2 with v2 | v2
      · exact v2 (h2 j v1)
      · omega⟩⟩
theorem y_mkB (hA : w_A b n) (hz : w_T b n 2 = 0) (hp : p < 40) (hX : y_X b n X) {x4 : Int} {Z : EM} (hB : y_B b n k Z) (hk : k < n) (hf : y_fr M Z) (h0 : ∀ e : Int, 0 ≤ e → e < 28 → r_G Z (28 * (p : Int) + e) = 0) (ho : ∀ x, 0 ≤ x → (x < 28 * (p : Int) ∨ 28 * (p : Int) + 28 ≤ x) → r_G Z x = r_G M x) (h2 : w_T b k 2 = 0) (hc : b k = 98) (h8 : w_T b k 8 = (f : Int)) (hpc : r_G M 1198 = p) : y_MK b n k M p X G D f (E_V 188 19 [192, (p : Int), 28, 0, x4] Z) := by
  obtain ⟨a1, a2, a3, a4, a5, a6, a7, a8⟩ := y_bgn (w_Al hA (Nat.le_of_lt hk)) h2 (Or.inr (Or.inr (Or.inr hc)))
  obtain ⟨B0, f0, z0⟩ := y_kind (kd := 3) hp hB hf h0 ho ⟨by decide, by decide⟩
  have ks := r_sign (y_ty hB)
  rw [y_sg hB, y_sb hk, hc] at ks
  obtain ⟨Z0, hZ0⟩ : ∃ Z0, e_up Z 193 (28 * (p : Int)).toNat 3 = Z0 := ⟨_, rfl⟩
  rw [hZ0] at B0 f0 z0
  have hmay := y_may2 (p := (p : Int)) (ks := 7) (by omega)
  obtain ⟨r, M', k', l, u1, u2, u3, u4, u5, u6, u7, u8, u9, u10, u11, u12, u13⟩ := y_over (g0 := r_G Z0) (f := f) (N := M) (most := 1) (Q := y_Q 7) hA hz hp (by decide) hmay hX _ k Z0 0 1 0 0 (Nat.le_refl _) B0 hk f0 a2 (Or.inr (a3.trans hc)) a5 (by omega) ⟨by decide, Or.inl ⟨rfl, rfl, by decide, fun j hj => absurd hj (Nat.not_lt_zero _), ⟨fun j hj => absurd hj (Nat.not_lt_zero _), fun _ _ _ _ => rfl⟩, fun _ _ _ _ => rfl⟩⟩ (fun _ _ _ => rfl)
  have u1' : E_V 187 6 [192, (p : Int), 1, 7, 0, 1, 0] Z0 = some (r, M') := u1
  have kC : E_C 187 [192, (p : Int), 1, 7] Z0 = some (r, M') := by
    rw [← u1']
    rw [r_ent (show e_rok 187 [192, (p : Int), 1, 7] = true from decide_eq_true r_ref)]
    show e_tv E_C (E_V 187) e_t187_0 [192, (p : Int), 1, 7, 0, 0, 0] Z0 = _
    unfold e_t187_0
    simp [zq_a, zq_b, zq_c, zq_d, zq_e, zq_f, zq_g, zq_h, zq_i, zq_j, zq_k, zq_l, zq_m, zq_n, zq_o, zq_p, zq_q, zq_r, zq_s, zq_t, zq_u, zq_v, zq_w, zq_x, zq_y, zq_z, zq_A, zq_B, zq_C, zq_D, zq_E, zq_F, zq_G, zq_H, zq_I, zq_J, zq_K, zq_L, ↓zq_M, ↓zq_N, ↓zq_O, ↓zq_P, ↓zq_Q, ↓zq_R, zq_S, zq_T, zq_U, zq_V, zq_W, zq_X, zq_Y, zq_Z, zq_0, zq_1, zq_2, zq_3, zq_4, zq_5, ↓zq_6, ↓zq_7, ↓zq_8, ↓zq_9, ↓zq_aa, zq_ab, zq_ac, zq_ad, zq_ae, zq_af, zq_ag, ↓zq_ah, ↓zq_ai, ↓zq_aj, zq_ak, ↓zq_al, ↓zq_am, e_b1, e_b2, x_o1, x_o2]
  have b1 : 0 ≤ 28 * (p : Int) ∧ 28 * (p : Int) < 1330 := by omega
  have b5 : 0 ≤ 28 * (p : Int) + 5 ∧ 28 * (p : Int) + 5 < 1330 := by omega
  have b6 : 0 ≤ 28 * (p : Int) + 6 ∧ 28 * (p : Int) + 6 < 1330 := by omega
  have hk5 : 28 * (p : Int) + 5 ≥ 1 := by omega
  have hk6 : 28 * (p : Int) + 6 ≥ 1 := by omega
  have n56 : 28 * (p : Int) + 5 ≠ 28 * (p : Int) + 6 := by omega
  have s1 := fun v => r_stw (i := 28 * (p : Int)) (v := v) (M := Z) b1.1 b1.2
  have s5 := fun v => r_stw (i := 28 * (p : Int) + 5) (v := v) (M := M') b5.1 b5.2
  have s6 := fun v M => r_stw (i := 28 * (p : Int) + 6) (v := v) (M := M) b6.1 b6.2
  obtain ⟨N1, hN1⟩ : ∃ N1, e_up (e_up M' 193 (28 * (p : Int) + 5).toNat 5) 193 (28 * (p : Int) + 6).toNat 1 = N1 := ⟨_, rfl⟩
  have G5 : r_G N1 (28 * (p : Int) + 5) = 5 := by rw [← hN1]; exact (r_G_n hk6 n56).trans r_G_s
  have G6 : r_G N1 (28 * (p : Int) + 6) = 1 := by rw [← hN1]; exact r_G_s
  have Gn : ∀ x, x ≠ 28 * (p : Int) + 5 → x ≠ 28 * (p : Int) + 6 → r_G N1 x = r_G M' x := fun x x1 x2 => by rw [← hN1]; exact (r_G_n hk6 x2).trans (r_G_n hk5 x1)
  have B1 : y_B b n k' N1 := by rw [← hN1]; exact y_Bw (y_Bw u2 ⟨by decide, by decide⟩) ⟨by decide, by decide⟩
  have f1 : y_fr M N1 := by rw [← hN1]; exact y_frw (y_frw u3)
  obtain ⟨s1', s2', s3', s4', s5', s6', s7', s8'⟩ := y_smc (w_Al hA (Nat.le_of_lt u5)) u7 u5 u6 u8 (by omega)
  have tl : y_tl (r_G M) p X (b k) f l ↔ (l ≤ 1 ∧ ∀ j, j < l → y_J (r_G Z0) p (y_Q 7) X f j) := by
    unfold y_tl
    rw [hc]
    refine ⟨fun h => ?_, fun h => Or.inr (Or.inr (Or.inr ⟨rfl, h.1, fun j hj => (y_J_eq z0).mp (h.2 j hj)⟩))⟩
    rcases h with h | h | h | h
    · exact absurd h.1 (by decide)
    · exact absurd h.1 (by decide)
    · exact absurd h.1 (by decide)
    · exact ⟨h.2.1, fun j hj => (y_J_eq z0).mpr (h.2.2 j hj)⟩
  have e15 : E_V 188 19 [192, (p : Int), 28, 0, x4] Z = E_V 188 189 [192, (p : Int), 98, 3, r] N1 := by
    obtain ⟨w1, w2, w3, -⟩ := y_kw hp
    rw [← hZ0] at kC
    rw [← hN1]
    exact (y_mB ks (by decide) (by decide) (by decide) w1 s1 kC).trans (y_m159y w1 w2 w3 s5 s6)
  obtain ⟨gr, hgr⟩ := y_gr6 s1'
  rcases u13 with ⟨e, v1, v2, v3, v4, v5⟩ | ⟨e, j, v1, v2⟩
  · have hXp : ∀ j, j < l → 0 ≤ X (f + j) ∧ X (f + j) < p := fun j hj => (v2 j hj).1
    have h1198 : r_G N1 1198 = p := by
      rw [Gn _ (by omega) (by omega), v3.2 _ (by decide) (Or.inr (by omega)) (fun j hj => by have := hXp j hj; omega), z0.2.2 _ (by decide) (Or.inr (by omega))]
      exact hpc
    obtain ⟨M2, y1, y2, y3, y4, y5⟩ := y_fin (x2 := 98) (x3 := 3) (r := r) hp B1 u5 f1 h1198
    have MO := y_mo_of (g2 := r_G M2) hp z0 v3 hXp (by omega) (fun x x0 hn => ⟨fun _ q1 q2 => (y5 x x0 hn).trans (Gn x q1 q2), fun _ => (y5 x x0 hn).trans (Gn x (by omega) (by omega))⟩) (Or.inl (by omega))
    have zz : ∀ d, 4 ≤ d → d < 28 → d ≠ 5 → d ≠ 6 → r_G M2 (28 * (p : Int) + d) = 0 := fun d d0 d1 d5 d6 => by
      rw [y5 _ (by omega) (by omega), Gn _ (by omega) (by omega), v4 d (by omega) d1 (by omega)]
      exact z0.2.1 d (by omega) d1
    refine ⟨r, M2, k' + 1, l, gr, e15.trans y1, y3, y2, by omega, s2', by omega, by omega, hgr, Or.inl ⟨e, tl.mpr ⟨v1, v2⟩, y4, ?_, fun h => absurd (hc.symm.trans h) (by decide), fun h => absurd (hc.symm.trans h) (by decide), fun h => absurd (hc.symm.trans h) (by decide), fun _ => ⟨?_, ?_, MO, zz 4 (by decide) (by decide) (by decide) (by decide), ?_, ?_, zz 7 (by decide) (by decide) (by decide) (by decide), zz 8 (by decide) (by decide) (by decide) (by decide)⟩⟩⟩
    · rw [y5 _ (by omega) (by omega), Gn _ (by omega) (by omega), v4 1 (by decide) (by decide) (by omega)]
      exact z0.2.1 1 (by decide) (by decide)
    · rw [y5 _ (by omega) (by omega), Gn _ (by omega) (by omega)]
      have := v4 0 (by decide) (by decide) (by omega)
      rw [Int.add_zero] at this
      rw [this]
      exact z0.1
    · rw [y5 _ (by omega) (by omega), Gn _ (by omega) (by omega), v5]
    · rw [y5 _ (by omega) (by omega), G5]
    · rw [y5 _ (by omega) (by omega), G6]
  · obtain ⟨M2, y1, y2, y3⟩ := y_fin0 (p := p) (x2 := 98) (x3 := 3) (r := r) B1 u5 f1
    exact ⟨r, M2, k' + 1, l, gr, e15.trans y1, y3, y2, by omega, s2', by omega, by omega, hgr, Or.inr ⟨e, fun h => by
      obtain ⟨h1, h2⟩ := tl.mp h
      rcases v2 with v2 | v2
      · exact v2 (h2 j v1)
      · omega⟩⟩
/-- one STATEMENT -/
theorem y_makes (hA : w_A b n) (hz : w_T b n 2 = 0) (hX : y_X b n X) (hXG : y_XG b n G D) (hB : y_B b n k M) (hk : k < n) (h2 : w_T b k 2 = 0) (h8 : w_T b k 8 = (f : Int)) (hpc : r_G M 1198 = p) (hp : p ≤ 40) : (p = 40 ∧ E_C 188 [192] M = some (0, M)) ∨ (p < 40 ∧ y_MK b n k M p X G D f (E_C 188 [192] M)) := by
  have l : e_op 60 [193, 1198] M = some (p : Int) := (r_rd (by decide) (by decide)).trans (congrArg some hpc)
  by_cases c : p = 40
  · refine Or.inl ⟨c, ?_⟩
    subst c
    exact y_m0 l
  · have hp' : p < 40 := by omega
    refine Or.inr ⟨hp', ?_⟩
    rw [y_m1 l (by omega)]
    obtain ⟨Z, k1, B1, f1, z1, z2⟩ := y_zero (N := M) (g := r_G M) (x4 := 0) hp' 28 0 M (by decide) hB (fun _ _ _ _ => rfl) (fun e e0 e1 => by omega) (fun _ _ _ => rfl)
    have k1' : E_V 188 19 [192, (p : Int), 0, 0, 0] M = E_V 188 19 [192, (p : Int), 28, 0, 0] Z := k1
    rw [k1']
    have ok := hA k hk
    unfold w_ok at ok
    rw [if_pos h2] at ok
    rcases ok with ok | ok | ok | ok
    · exact y_mkC hA hz hp' hX B1 hk f1 z1 z2 h2 ok h8 hpc
    · exact y_mkR hA hz hp' hX hXG B1 hk f1 z1 z2 h2 ok h8 hpc
    · exact y_mkF hA hz hp' hX B1 hk f1 z1 z2 h2 ok h8 hpc
    · exact y_mkB hA hz hp' hX B1 hk f1 z1 z2 h2 ok h8 hpc
end YQ3
end
section
/-! the PARTS' KINDS, which are in which: class and reference -/
def h_B (M : EM) (dc : Nat) (g : Int → Int) : Prop := M (10 + dc) 0 = g 1198 ∧ (0 ≤ g 1198 ∧ g 1198 ≤ 40) ∧ ∀ q : Nat, (q : Int) < g 1198 → M (11 + dc) q = g (28 * (q : Int)) ∧ M (13 + dc) q = g (28 * (q : Int) + 1) - 1 ∧ (0 ≤ g (28 * (q : Int)) ∧ g (28 * (q : Int)) ≤ 3) ∧ 0 ≤ g (28 * (q : Int) + 1) ∧ g (28 * (q : Int) + 1) ≤ g 1198
theorem h_B0 {M : EM} {g : Int → Int} {p : Nat} (h : h_B M 0 g) (hp : g 1198 = p) : M 10 0 = p ∧ ∀ q : Nat, q < p → M 11 q = g (28 * (q : Int)) ∧ M 13 q = g (28 * (q : Int) + 1) - 1 ∧ (0 ≤ g (28 * (q : Int)) ∧ g (28 * (q : Int)) ≤ 3) ∧ 0 ≤ g (28 * (q : Int) + 1) ∧ g (28 * (q : Int) + 1) ≤ p := by
  obtain ⟨h1, h2, h3⟩ := h
  refine ⟨h1.trans hp, fun q hq => ?_⟩
  have := h3 q (by omega)
  rw [hp] at this
  exact this
/-- falling to 0: the first is above 0 -/
theorem h_fall {X : Nat → Int} {f m : Nat} (h0 : X (f + 2 * m + 1) = 0) (hf : ∀ j, j < m → X (f + 2 * (j + 1) + 1) < X (f + 2 * j + 1)) : ∀ i, i ≤ m → (i : Int) ≤ X (f + 2 * (m - i) + 1) := by
  intro i
  induction i with
  | zero =>
    intro _
    rw [show m - 0 = m by omega, h0]
    exact Int.le_refl _
  | succ i ih =>
    intro hi
    have a := ih (by omega)
    have c := hf (m - (i + 1)) (by omega)
    rw [show m - (i + 1) + 1 = m - i by omega] at c
    omega
theorem h_cn {M : EM} {f m : Nat} (hm : 1 ≤ m) : w_cn M f m ↔ y_cn (M 167) f m := by
  unfold w_cn y_cn
  refine ⟨fun ⟨a, c, _, d, e⟩ => ⟨a, c, d, e⟩, fun ⟨a, c, d, e⟩ => ⟨a, c, ?_, d, e⟩⟩
  have z := h_fall (X := M 167) (f := f) (m := m) d (fun j hj => (e j hj).2) m (Nat.le_refl _)
  rw [show f + 2 * (m - m) + 1 = f + 1 by omega] at z
  omega
theorem h_j1 {M : EM} {g : Int → Int} {p : Nat} (h : h_B M 0 g) (hp : g 1198 = p) {K ks : Int} (hK : ∀ kd : Int, 0 ≤ kd → kd ≤ 3 → (y_Q ks kd ↔ w_mh K kd)) {f i : Nat} : w_j1 M p K f i ↔ y_J g p (y_Q ks) (M 167) f i := by
  obtain ⟨-, h2⟩ := h_B0 h hp
  unfold w_j1 y_J
  refine ⟨fun ⟨a, c, d, e, k⟩ => ?_, fun ⟨⟨a, c⟩, d, e, k⟩ => ?_⟩
  · obtain ⟨o, ho⟩ : ∃ o : Nat, M 167 (f + i) = o := ⟨(M 167 (f + i)).toNat, by omega⟩
    rw [ho] at a c d e k ⊢
    rw [Int.toNat_natCast] at d e
    obtain ⟨q1, q2, q3, q4⟩ := h2 o (by omega)
    rw [q1] at e
    exact ⟨⟨a, c⟩, (hK _ q3.1 q3.2).mpr e, by omega, k⟩
  · obtain ⟨o, ho⟩ : ∃ o : Nat, M 167 (f + i) = o := ⟨(M 167 (f + i)).toNat, by omega⟩
    rw [ho] at a c d e k ⊢
    rw [Int.toNat_natCast]
    obtain ⟨q1, q2, q3, q4⟩ := h2 o (by omega)
    rw [q1]
    exact ⟨a, c, by omega, (hK _ q3.1 q3.2).mp d, k⟩
theorem h_tl {M : EM} {g : Int → Int} {p : Nat} (h : h_B M 0 g) (hp : g 1198 = p) {c : Int} {f n : Nat} (hc : c = 99 ∨ c = 114 ∨ c = 102 ∨ (c = 98 ∧ n ≤ 1)) : w_tl M p c f n ↔ (p < 40 ∧ y_tl g p (M 167) c f n) := by
  have k1 : ∀ kd : Int, 0 ≤ kd → kd ≤ 3 → (y_Q 1 kd ↔ w_mh 1 kd) := fun kd a b => (y_Kmh ⟨a, b⟩).1
  have k3 : ∀ kd : Int, 0 ≤ kd → kd ≤ 3 → (y_Q 3 kd ↔ w_mh 2 kd) := fun kd a b => (y_Kmh ⟨a, b⟩).2.1
  have k7 : ∀ kd : Int, 0 ≤ kd → kd ≤ 3 → (y_Q 7 kd ↔ w_mh 3 kd) := fun kd a b => (y_Kmh ⟨a, b⟩).2.2
  have j1 : w_jn M p 1 f n ↔ ∀ j, j < n → y_J g p (y_Q 1) (M 167) f j := ⟨fun hh j hj => (h_j1 h hp k1).mp (hh j hj), fun hh j hj => (h_j1 h hp k1).mpr (hh j hj)⟩
  have j3 : w_jn M p 2 f n ↔ ∀ j, j < n → y_J g p (y_Q 3) (M 167) f j := ⟨fun hh j hj => (h_j1 h hp k3).mp (hh j hj), fun hh j hj => (h_j1 h hp k3).mpr (hh j hj)⟩
  have j7 : w_jn M p 3 f n ↔ ∀ j, j < n → y_J g p (y_Q 7) (M 167) f j := ⟨fun hh j hj => (h_j1 h hp k7).mp (hh j hj), fun hh j hj => (h_j1 h hp k7).mpr (hh j hj)⟩
  unfold w_tl y_tl
  rw [j1, j3, j7]
  clear j1 j3 j7 k1 k3 k7
  refine and_congr_right (fun _ => ?_)
  rcases hc with hc | hc | hc | ⟨hc, hn⟩
  · refine ⟨fun hh => ?_, fun hh => ?_⟩
    · rcases hh with ⟨a, d, e, k⟩ | hh | hh | hh
      · exact Or.inl ⟨a, d, e, (h_cn (by omega)).mp k⟩
      · exact absurd (hc.symm.trans hh.1) (by decide)
      · exact absurd (hc.symm.trans hh.1) (by decide)
      · exact absurd hc hh.1
    · rcases hh with ⟨a, d, e, k⟩ | hh | hh | hh
      · exact Or.inl ⟨a, d, e, (h_cn (by omega)).mpr k⟩
      · exact absurd (hc.symm.trans hh.1) (by decide)
      · exact absurd (hc.symm.trans hh.1) (by decide)
      · exact absurd (hc.symm.trans hh.1) (by decide)
  · refine ⟨fun hh => ?_, fun hh => ?_⟩
    · rcases hh with hh | hh | hh | hh
      · exact absurd (hc.symm.trans hh.1) (by decide)
      · exact Or.inr (Or.inl hh)
      · exact absurd (hc.symm.trans hh.1) (by decide)
      · exact absurd hc hh.2.1
    · rcases hh with hh | hh | hh | hh
      · exact absurd (hc.symm.trans hh.1) (by decide)
      · exact Or.inr (Or.inl hh)
      · exact absurd (hc.symm.trans hh.1) (by decide)
      · exact absurd (hc.symm.trans hh.1) (by decide)
  · refine ⟨fun hh => ?_, fun hh => ?_⟩
    · rcases hh with hh | hh | hh | hh
      · exact absurd (hc.symm.trans hh.1) (by decide)
      · exact absurd (hc.symm.trans hh.1) (by decide)
      · exact Or.inr (Or.inr (Or.inl hh))
      · exact absurd hc hh.2.2.1
    · rcases hh with hh | hh | hh | hh
      · exact absurd (hc.symm.trans hh.1) (by decide)
      · exact absurd (hc.symm.trans hh.1) (by decide)
      · exact Or.inr (Or.inr (Or.inl hh))
      · exact absurd (hc.symm.trans hh.1) (by decide)
  · refine ⟨fun hh => ?_, fun hh => ?_⟩
    · rcases hh with hh | hh | hh | hh
      · exact absurd (hc.symm.trans hh.1) (by decide)
      · exact absurd (hc.symm.trans hh.1) (by decide)
      · exact absurd (hc.symm.trans hh.1) (by decide)
      · exact Or.inr (Or.inr (Or.inr ⟨hc, hn, hh.2.2.2⟩))
    · rcases hh with hh | hh | hh | hh
      · exact absurd (hc.symm.trans hh.1) (by decide)
      · exact absurd (hc.symm.trans hh.1) (by decide)
      · exact absurd (hc.symm.trans hh.1) (by decide)
      · exact Or.inr (Or.inr (Or.inr ⟨by rw [hc]; decide, by rw [hc]; decide, by rw [hc]; decide, hh.2.2⟩))
/-- a PART of others comes -/
theorem h_js {M M' : EM} {g g' : Int → Int} {p : Nat} (h : h_B M 0 g) (hp : g 1198 = p) (hp40 : p < 40) {K t : Int} {f n : Nat} (hs : w_js M M' p K t f n) (hj : ∀ j, j < n → 0 ≤ M 167 (f + j) ∧ M 167 (f + j) < p) (hK : 0 ≤ K ∧ K ≤ 3) (g1 : g' 1198 = (p : Int) + 1) (g2 : g' (28 * (p : Int) + 1) = 0) (g3 : g' (28 * (p : Int)) = K) (hm : y_mo g g' p (M 167) f n) : h_B M' 0 g' := by
  obtain ⟨-, h2⟩ := h_B0 h hp
  obtain ⟨a1, a2, a3, a4, a5, a6, a7, a8, a9, a10, a11, a12, a13⟩ := hs
  obtain ⟨m1, m2⟩ := hm
  refine ⟨a5.trans g1.symm, by omega, fun q hq => ?_⟩
  by_cases c : q = p
  · subst c
    refine ⟨a1.trans g3.symm, ?_, by omega, by omega, by omega⟩
    show M' 13 q = _
    rw [a3, g2]; rfl
  · obtain ⟨q1, q2, q3, q4, q5⟩ := h2 q (by omega)
    have e28 : g' (28 * (q : Int)) = g (28 * (q : Int)) := m2 _ (by omega) (Or.inl (by omega)) (by omega) (fun j hj' => by omega)
    rw [e28]
    refine ⟨(a8 q c).1.trans q1, ?_, q3, ?_⟩
    · show M' 13 q = _
      by_cases e : ∃ j, j < n ∧ M 167 (f + j) = (q : Int)
      · obtain ⟨j, j1, j2⟩ := e
        have u := (a6 j j1).2.2.2
        have v := (m1 j j1).2
        rw [j2] at u v
        rw [Int.toNat_natCast] at u
        rw [u, v]
        omega
      · have u := a7 q c (fun j j1 j2 => e ⟨j, j1, j2⟩)
        have v := m2 (28 * (q : Int) + 1) (by omega) (Or.inl (by omega)) (by omega) (fun j j1 j2 => e ⟨j, j1, by omega⟩)
        rw [u, v]
        exact q2
    · by_cases e : ∃ j, j < n ∧ M 167 (f + j) = (q : Int)
      · obtain ⟨j, j1, j2⟩ := e
        have v := (m1 j j1).2
        rw [j2] at v
        omega
      · have v := m2 (28 * (q : Int) + 1) (by omega) (Or.inl (by omega)) (by omega) (fun j j1 j2 => e ⟨j, j1, by omega⟩)
        omega
theorem h_to {M M' : EM} {g g' : Int → Int} {p : Nat} (h : h_B M 0 g) (hp : g 1198 = p) {c : Int} {f n gr : Nat} {G D : Nat → Int} {t : Int} (ht : w_tl M p c f n) (ho : w_to M M' p c t f n) (hy : y_ot g g' p (M 167) G D c f n gr) (hc : c = 99 ∨ c = 114 ∨ c = 102 ∨ c = 98) : h_B M' 0 g' := by
  obtain ⟨hp40, ht⟩ := ht
  obtain ⟨o1, o2, o3, o4⟩ := ho
  obtain ⟨y1, y2, y3, y4, y5, y6⟩ := hy
  rcases hc with hc | hc | hc | hc
  · obtain ⟨N, n1, n2⟩ := o1 hc
    obtain ⟨z1, z2, z3, z4, z5, z6⟩ := y3 hc
    have HN : h_B N 0 g' := h_js (n := 0) h hp hp40 n1 (fun j hj => absurd hj (Nat.not_lt_zero _)) ⟨by decide, by decide⟩ y1 y2 z1 ⟨fun j hj => absurd hj (Nat.not_lt_zero _), fun x x0 hx hn _ => z6 x x0 hx hn⟩
    obtain ⟨k1, k2, k3⟩ := HN
    have e : ∀ id k, id ≠ 19 → id ≠ 20 → M' id k = N id k := fun id k h1 h2 => n2.1 id k (by omega)
    refine ⟨(e _ _ (by decide) (by decide)).trans k1, k2, fun q hq => ?_⟩
    obtain ⟨q1, q2, q3⟩ := k3 q hq
    exact ⟨(e _ _ (by decide) (by decide)).trans q1, (e _ _ (by decide) (by decide)).trans q2, q3⟩
  · obtain ⟨z1, z2, z3, -⟩ := y4 hc
    have hj : w_jn M p 1 f n := by
      rcases ht with ht | ht | ht | ht
      · exact absurd (hc.symm.trans ht.1) (by decide)
      · exact ht.2.2
      · exact absurd (hc.symm.trans ht.1) (by decide)
      · exact absurd hc ht.2.1
    exact h_js h hp hp40 (o2 hc) (fun j hj' => ⟨(hj j hj').1, (hj j hj').2.1⟩) ⟨by decide, by decide⟩ y1 y2 z1 z3
  · obtain ⟨z1, z2, z3⟩ := y5 hc
    have hj : w_jn M p 2 f n := by
      rcases ht with ht | ht | ht | ht
      · exact absurd (hc.symm.trans ht.1) (by decide)
      · exact absurd (hc.symm.trans ht.1) (by decide)
      · exact ht.2.2
      · exact absurd hc ht.2.2.1
    exact h_js h hp hp40 (o3 hc) (fun j hj' => ⟨(hj j hj').1, (hj j hj').2.1⟩) ⟨by decide, by decide⟩ y1 y2 z1 z3
  · obtain ⟨z1, z2, z3, -⟩ := y6 hc
    have hj : w_jn M p 3 f n := by
      rcases ht with ht | ht | ht | ht
      · exact absurd (hc.symm.trans ht.1) (by decide)
      · exact absurd (hc.symm.trans ht.1) (by decide)
      · exact absurd (hc.symm.trans ht.1) (by decide)
      · exact ht.2.2.2
    exact h_js h hp hp40 (o4 (by rw [hc]; decide) (by rw [hc]; decide) (by rw [hc]; decide)) (fun j hj' => ⟨(hj j hj').1, (hj j hj').2.1⟩) ⟨by decide, by decide⟩ y1 y2 z1 z3
end
section
/-! what is told of CELLS: settings, DEAD or not, where they lie: class and reference -/
def h_Cq (M : EM) (dc : Nat) (g : Int → Int) (q : Nat) : Prop := g (28 * (q : Int)) = 0 → (∀ a : Nat, a < 4 → M (21 + dc) (4 * q + a) = g (28 * (q : Int) + 15 + (a : Int)) ∧ 0 ≤ g (28 * (q : Int) + 15 + (a : Int)) ∧ g (28 * (q : Int) + 15 + (a : Int)) ≤ 100) ∧ (M (22 + dc) q = g (28 * (q : Int) + 19) ∧ (g (28 * (q : Int) + 19) = 0 ∨ g (28 * (q : Int) + 19) = 1)) ∧ ((g (28 * (q : Int) + 20) = 0 ∧ M (23 + dc) q = -1 ∧ M (24 + dc) q = -1) ∨ (g (28 * (q : Int) + 20) = 1 ∧ M (23 + dc) q = 100 * g (28 * (q : Int) + 21) + g (28 * (q : Int) + 22) ∧ M (24 + dc) q = 100 * g (28 * (q : Int) + 23) + g (28 * (q : Int) + 24)))
def h_C (M : EM) (dc : Nat) (g : Int → Int) : Prop := ∀ q : Nat, (q : Int) < g 1198 → h_Cq M dc g q
theorem h_Cq_cg {M M' : EM} {dc q : Nat} {g g' : Int → Int} (h : h_Cq M dc g q) (e0 : g' (28 * (q : Int)) = g (28 * (q : Int))) (e : ∀ d : Int, 15 ≤ d → d ≤ 24 → g' (28 * (q : Int) + d) = g (28 * (q : Int) + d)) (c1 : ∀ a : Nat, a < 4 → M' (21 + dc) (4 * q + a) = M (21 + dc) (4 * q + a)) (c2 : M' (22 + dc) q = M (22 + dc) q) (c3 : M' (23 + dc) q = M (23 + dc) q) (c4 : M' (24 + dc) q = M (24 + dc) q) : h_Cq M' dc g' q := by
  intro hk
  rw [e0] at hk
  obtain ⟨h1, h2, h3⟩ := h hk
  rw [c2, c3, c4, e 19 (by decide) (by decide), e 20 (by decide) (by decide), e 21 (by decide) (by decide), e 22 (by decide) (by decide), e 23 (by decide) (by decide), e 24 (by decide) (by decide)]
  refine ⟨fun a ha => ?_, h2, h3⟩
  have e15 := e (15 + (a : Int)) (by omega) (by omega)
  rw [show 28 * (q : Int) + (15 + (a : Int)) = 28 * (q : Int) + 15 + (a : Int) by omega] at e15
  rw [c1 a ha, e15]
  exact h1 a ha
/-- a new PART of others, or a new CELL -/
theorem h_Cjs {M M' : EM} {g g' : Int → Int} {p : Nat} (h : h_C M 0 g) (hp : g 1198 = p) (hp40 : p < 40) {K t : Int} {f n : Nat} (hs : w_js M M' p K t f n) (hj : ∀ j, j < n → 0 ≤ M 167 (f + j) ∧ M 167 (f + j) < p) (g1 : g' 1198 = (p : Int) + 1) (new : g' (28 * (p : Int)) = 0 → g' (28 * (p : Int) + 15) = 100 ∧ ∀ d, 16 ≤ d → d < 28 → g' (28 * (p : Int) + d) = 0) (m2 : ∀ x, 0 ≤ x → (x < 28 * (p : Int) ∨ 28 * (p : Int) + 28 ≤ x) → x ≠ 1198 → (∀ j, j < n → x ≠ 28 * M 167 (f + j) + 1) → g' x = g x) : h_C M' 0 g' := by
  obtain ⟨a1, a2, a3, a4, a5, a6, a7, a8, a9, a10, a11, a12, a13⟩ := hs
  intro q hq
  rw [g1] at hq
  by_cases c : q = p
  · subst c
    intro hk
    obtain ⟨n1, n2⟩ := new hk
    obtain ⟨b0, b1, b2, b3, b4, b5, b6⟩ := a11
    rw [n2 19 (by decide) (by decide), n2 20 (by decide) (by decide)]
    refine ⟨fun a ha => ?_, ⟨b4, Or.inl rfl⟩, Or.inl ⟨rfl, b5, b6⟩⟩
    have ha' : a = 0 ∨ a = 1 ∨ a = 2 ∨ a = 3 := by omega
    rcases ha' with rfl | rfl | rfl | rfl
    · have e : g' (28 * (q : Int) + 15 + ((0 : Nat) : Int)) = 100 := by rw [← n1]; exact congrArg g' (by omega)
      rw [e]
      exact ⟨b0, by decide, by decide⟩
    · have e : g' (28 * (q : Int) + 15 + ((1 : Nat) : Int)) = 0 := by rw [← n2 16 (by decide) (by decide)]; exact congrArg g' (by omega)
      rw [e]
      exact ⟨b1, by decide, by decide⟩
    · have e : g' (28 * (q : Int) + 15 + ((2 : Nat) : Int)) = 0 := by rw [← n2 17 (by decide) (by decide)]; exact congrArg g' (by omega)
      rw [e]
      exact ⟨b2, by decide, by decide⟩
    · have e : g' (28 * (q : Int) + 15 + ((3 : Nat) : Int)) = 0 := by rw [← n2 18 (by decide) (by decide)]; exact congrArg g' (by omega)
      rw [e]
      exact ⟨b3, by decide, by decide⟩
  · obtain ⟨-, -, -, d1, d2, d3⟩ := a8 q c
    refine h_Cq_cg (h q (by omega)) (m2 _ (by omega) (Or.inl (by omega)) (by omega) (fun j hj' => by have := hj j hj'; omega)) (fun d d0 d1 => m2 _ (by omega) (Or.inl (by omega)) (by omega) (fun j hj' => by have := hj j hj'; omega)) (fun a ha => a10 _ (by omega)) d1 d2 d3
theorem h_Cto {M M' : EM} {g g' : Int → Int} {p : Nat} (h : h_C M 0 g) (hp : g 1198 = p) {c : Int} {f n gr : Nat} {G D : Nat → Int} {t : Int} (ht : w_tl M p c f n) (ho : w_to M M' p c t f n) (hy : y_ot g g' p (M 167) G D c f n gr) (hc : c = 99 ∨ c = 114 ∨ c = 102 ∨ c = 98) : h_C M' 0 g' := by
  obtain ⟨hp40, ht⟩ := ht
  obtain ⟨o1, o2, o3, o4⟩ := ho
  obtain ⟨y1, y2, y3, y4, y5, y6⟩ := hy
  rcases hc with hc | hc | hc | hc
  · obtain ⟨N, n1, n2⟩ := o1 hc
    obtain ⟨z1, z2, z3, z4, z5, z6⟩ := y3 hc
    have HN : h_C N 0 g' := h_Cjs (n := 0) h hp hp40 n1 (fun j hj => absurd hj (Nat.not_lt_zero _)) y1 (fun _ => ⟨z4, z5⟩) (fun x x0 hx hn _ => z6 x x0 hx hn)
    have e : ∀ id k, id ≠ 19 → id ≠ 20 → M' id k = N id k := fun id k h1 h2 => n2.1 id k (by omega)
    exact fun q hq => h_Cq_cg (HN q hq) rfl (fun _ _ _ => rfl) (fun a _ => e _ _ (by decide) (by decide)) (e _ _ (by decide) (by decide)) (e _ _ (by decide) (by decide)) (e _ _ (by decide) (by decide))
  · obtain ⟨z1, z2, z3, -⟩ := y4 hc
    have hj : w_jn M p 1 f n := by
      rcases ht with ht | ht | ht | ht
      · exact absurd (hc.symm.trans ht.1) (by decide)
      · exact ht.2.2
      · exact absurd (hc.symm.trans ht.1) (by decide)
      · exact absurd hc ht.2.1
    exact h_Cjs h hp hp40 (o2 hc) (fun j hj' => ⟨(hj j hj').1, (hj j hj').2.1⟩) y1 (fun e => absurd (e.symm.trans z1) (by decide)) z3.2
  · obtain ⟨z1, z2, z3⟩ := y5 hc
    have hj : w_jn M p 2 f n := by
      rcases ht with ht | ht | ht | ht
      · exact absurd (hc.symm.trans ht.1) (by decide)
      · exact absurd (hc.symm.trans ht.1) (by decide)
      · exact ht.2.2
      · exact absurd hc ht.2.2.1
    exact h_Cjs h hp hp40 (o3 hc) (fun j hj' => ⟨(hj j hj').1, (hj j hj').2.1⟩) y1 (fun e => absurd (e.symm.trans z1) (by decide)) z3.2
  · obtain ⟨z1, z2, z3, -⟩ := y6 hc
    have hj : w_jn M p 3 f n := by
      rcases ht with ht | ht | ht | ht
      · exact absurd (hc.symm.trans ht.1) (by decide)
      · exact absurd (hc.symm.trans ht.1) (by decide)
      · exact absurd (hc.symm.trans ht.1) (by decide)
      · exact ht.2.2.2
    exact h_Cjs h hp hp40 (o4 (by rw [hc]; decide) (by rw [hc]; decide) (by rw [hc]; decide)) (fun j hj' => ⟨(hj j hj').1, (hj j hj').2.1⟩) y1 (fun e => absurd (e.symm.trans z1) (by decide)) z3.2
end
