section YQ2
variable {b : Nat → Int} {n k : Nat} {N M : EM} {p : Nat} {X G D : Nat → Int} {f : Nat}
theorem y_fin {x2 x3 r : Int} {k' : Nat} (hp : p < 40) (hB : y_B b n k' M) (hk : k' < n) (hf : y_fr N M) (h1198 : r_G M 1198 = p) : ∃ M', E_V 188 189 [192, (p : Int), x2, x3, r] M = some (r, M') ∧ y_B b n (k' + 1) M' ∧ y_fr N M' ∧ r_G M' 1198 = (p : Int) + 1 ∧ ∀ x, 0 ≤ x → x ≠ 1198 → r_G M' x = r_G M x := by
  obtain ⟨o1, o2⟩ := y_on hB hk
  have f1 := y_fr_t hf o1
  have G1 := y_G_t o1
  have h15 := hB.2.1
  obtain ⟨M1, hM1⟩ : ∃ M1, e_up M 192 15 ((k' : Int) + 1) = M1 := ⟨_, rfl⟩
  rw [hM1] at o2 f1 G1
  have l : e_op 60 [193, 1198] M1 = some (p : Int) := (r_rd (by decide) (by decide)).trans (congrArg some (by rw [G1]; exact h1198))
  have s1 : ∀ v, e_st 100 [193, 1198, v] M1 = some (e_up M1 193 1198 v) := fun v => r_stw (i := 1198) (by decide) (by decide)
  have BN := y_Bw (i := 1198) (v := (p : Int) + 1) o2 ⟨by omega, by omega⟩
  have fN := y_frw (i := 1198) (v := (p : Int) + 1) f1
  have Gs : r_G (e_up M1 193 1198 ((p : Int) + 1)) 1198 = (p : Int) + 1 := r_G_s (i := 1198)
  have Gn : ∀ x, x ≠ 1198 → r_G (e_up M1 193 1198 ((p : Int) + 1)) x = r_G M1 x := fun x hx => r_G_n (i := 1198) (by decide) hx
  have w2 : e_w ((p : Int) + 1) = (p : Int) + 1 := by
    clear l s1 BN fN Gs Gn h1198
    exact a_w_id (by omega) (by omega)
  exact ⟨_, y_m189 h15 (y_k1 hB) hM1 l w2 s1, BN, fN, Gs, fun x _ hx => (Gn x hx).trans (by rw [G1])⟩
theorem y_kw (hp : p < 40) : e_w (28 * (p : Int)) = 28 * (p : Int) ∧ e_w (28 * (p : Int) + 5) = 28 * (p : Int) + 5 ∧ e_w (28 * (p : Int) + 6) = 28 * (p : Int) + 6 ∧ e_w (28 * (p : Int) + 15) = 28 * (p : Int) + 15 := by
  refine ⟨?_, ?_, ?_, ?_⟩ <;> exact a_w_id (by omega) (by omega)
/-- the row is empty, the KIND is set -/
theorem y_kind (hp : p < 40) {g : Int → Int} {Z : EM} (hB : y_B b n k Z) (hf : y_fr M Z) (h0 : ∀ e : Int, 0 ≤ e → e < 28 → r_G Z (28 * (p : Int) + e) = 0) (ho : ∀ x, 0 ≤ x → (x < 28 * (p : Int) ∨ 28 * (p : Int) + 28 ≤ x) → r_G Z x = g x) {kd : Int} (hkd : 0 ≤ kd ∧ kd ≤ 3) : y_B b n k (e_up Z 193 (28 * (p : Int)).toNat kd) ∧ y_fr M (e_up Z 193 (28 * (p : Int)).toNat kd) ∧ y_zk g (r_G (e_up Z 193 (28 * (p : Int)).toNat kd)) p kd := by
  have Gn : ∀ x, 0 ≤ x → x ≠ 28 * (p : Int) → r_G (e_up Z 193 (28 * (p : Int)).toNat kd) x = r_G Z x := fun x x0 hx => by
    unfold r_G
    rw [c_up_n (by omega)]
  refine ⟨y_Bw hB ⟨by omega, by omega⟩, y_frw hf, r_G_s, fun d d0 d1 => ?_, fun x x0 hx => ?_⟩
  · rw [Gn _ (by omega) (by omega)]
    exact h0 d (by omega) d1
  · rw [Gn _ x0 (by omega)]
    exact ho x x0 hx
theorem y_mo_of {g g0 g1 g2 : Int → Int} {l : Nat} {kd : Int} (hp : p < 40) (hz : y_zk g g0 p kd) (h : y_mr g0 g1 p X f l) (hX : ∀ j, j < l → 0 ≤ X (f + j) ∧ X (f + j) < p) (hl : l ≤ 8) (h2 : ∀ x, 0 ≤ x → x ≠ 1198 → (x < 28 * (p : Int) + 11 → x ≠ 28 * (p : Int) + 5 → x ≠ 28 * (p : Int) + 6 → g2 x = g1 x) ∧ (28 * (p : Int) + 28 ≤ x → g2 x = g1 x)) (h3 : l ≤ 2 ∨ ∀ x, 0 ≤ x → x ≠ 1198 → g2 x = g1 x) : y_mo g g2 p X f l := by
  obtain ⟨a1, a2⟩ := h
  refine ⟨fun j hj => ?_, fun x x0 hx hn hm => ?_⟩
  · obtain ⟨c1, c2⟩ := a1 j hj
    have c3 := hX j hj
    refine ⟨?_, ?_⟩
    · rcases h3 with h3 | h3
      · exact ((h2 _ (by omega) (by omega)).1 (by omega) (by omega) (by omega)).trans c1
      · exact (h3 _ (by omega) (by omega)).trans c1
    · exact ((h2 _ (by omega) (by omega)).1 (by omega) (by omega) (by omega)).trans c2
  · rw [← hz.2.2 x x0 hx, ← a2 x x0 hx hm]
    rcases hx with hx | hx
    · exact (h2 x x0 hn).1 (by omega) (by omega) (by omega)
    · exact (h2 x x0 hn).2 hx
theorem y_mkC (hA : w_A b n) (hz : w_T b n 2 = 0) (hp : p < 40) (hX : y_X b n X) {x4 : Int} {Z : EM} (hB : y_B b n k Z) (hk : k < n) (hf : y_fr M Z) (h0 : ∀ e : Int, 0 ≤ e → e < 28 → r_G Z (28 * (p : Int) + e) = 0) (ho : ∀ x, 0 ≤ x → (x < 28 * (p : Int) ∨ 28 * (p : Int) + 28 ≤ x) → r_G Z x = r_G M x) (h2 : w_T b k 2 = 0) (hc : b k = 99) (h8 : w_T b k 8 = (f : Int)) (hpc : r_G M 1198 = p) : y_MK b n k M p X G D f (E_V 188 19 [192, (p : Int), 28, 0, x4] Z) := by
  obtain ⟨a1, a2, a3, a4, a5, a6, a7, a8⟩ := y_bgn (w_Al hA (Nat.le_of_lt hk)) h2 (Or.inl hc)
  obtain ⟨B0, f0, z0⟩ := y_kind (kd := 0) hp hB hf h0 ho ⟨by decide, by decide⟩
  have ks := r_sign (y_ty hB)
  rw [y_sg hB, y_sb hk, hc] at ks
  obtain ⟨Z0, hZ0⟩ : ∃ Z0, e_up Z 193 (28 * (p : Int)).toNat 0 = Z0 := ⟨_, rfl⟩
  rw [hZ0] at B0 f0 z0
  obtain ⟨r, M', k', l, u1, u2, u3, u4, u5, u6, u7, u8, u9, u10, u11, u12, u13, u14⟩ := y_c4 (g0 := r_G Z0) (f := f) (i := 0) hA hz hp hX _ k Z0 0 1 0 0 (Nat.le_refl _) B0 hk f0 a2 (a3.trans hc) a4 a5 (by omega) ⟨by decide, Or.inl ⟨rfl, rfl, by decide, fun j hj => absurd hj (Nat.not_lt_zero _), fun _ _ _ => rfl, fun _ _ _ _ => rfl⟩⟩
  have kC : E_C 184 [192, (p : Int)] Z0 = some (r, M') := by
    rw [← u1]
    rw [r_ent (show e_rok 184 [192, (p : Int)] = true from decide_eq_true r_ref)]
    show e_tv E_C (E_V 184) e_t184_0 [192, (p : Int), 0, 0, 0, 0] Z0 = _
    unfold e_t184_0
    simp [e_tv, e_ev, e_sv, e_b1, e_b2, x_o1, x_o2]
  have b1 : 0 ≤ 28 * (p : Int) ∧ 28 * (p : Int) < 1330 := by omega
  have b2 : 0 ≤ 28 * (p : Int) + 15 ∧ 28 * (p : Int) + 15 < 1330 := by omega
  have hk15 : 28 * (p : Int) + 15 ≥ 1 := by omega
  have s1 := fun v => r_stw (i := 28 * (p : Int)) (v := v) (M := Z) b1.1 b1.2
  have s2 := fun v => r_stw (i := 28 * (p : Int) + 15) (v := v) (M := M') b2.1 b2.2
  have Gs : r_G (e_up M' 193 (28 * (p : Int) + 15).toNat 100) (28 * (p : Int) + 15) = 100 := r_G_s
  have Gn : ∀ x, x ≠ 28 * (p : Int) + 15 → r_G (e_up M' 193 (28 * (p : Int) + 15).toNat 100) x = r_G M' x := fun x hx => r_G_n hk15 hx
  have B1 := y_Bw (i := 28 * (p : Int) + 15) (v := 100) u2 ⟨by decide, by decide⟩
  have f1 := y_frw (i := 28 * (p : Int) + 15) (v := 100) u3
  obtain ⟨s1', s2', s3', s4', s5', s6', s7', s8'⟩ := y_smc (w_Al hA (Nat.le_of_lt u5)) u7 u5 u6 u8 (by omega)
  have tl : y_tl (r_G M) p X (b k) f (2 * l) ↔ (2 ≤ l ∧ l ≤ 6 ∧ y_cn X f (l - 1)) := by
    unfold y_tl
    rw [hc, show 2 * l / 2 = l by omega]
    refine ⟨fun h => ?_, fun h => Or.inl ⟨rfl, h⟩⟩
    rcases h with h | h | h | h
    · exact h.2
    · exact absurd h.1 (by decide)
    · exact absurd h.1 (by decide)
    · exact absurd h.1 (by decide)
  have e15 : E_V 188 19 [192, (p : Int), 28, 0, x4] Z = E_V 188 189 [192, (p : Int), 99, 0, r] (e_up M' 193 (28 * (p : Int) + 15).toNat 100) := by
    obtain ⟨w1, -, -, w4⟩ := y_kw hp
    rw [← hZ0] at kC
    exact (y_mC ks w1 s1 kC w4 s2).trans (y_m159n (by decide))
  generalize e_up M' 193 (28 * (p : Int) + 15).toNat 100 = N1 at Gs Gn B1 f1 e15
  rcases u14 with ⟨e, v1, v2, v3, v4, v5, v6, v7⟩ | ⟨e, v1⟩
  · have h1198 : r_G N1 1198 = p := by
      rw [Gn _ (by omega), v5 _ (by decide) (Or.inr (by omega)), z0.2.2 _ (by decide) (Or.inr (by omega))]
      exact hpc
    obtain ⟨M2, y1, y2, y3, y4, y5⟩ := y_fin (x2 := 99) (x3 := 0) (r := r) hp B1 u5 f1 h1198
    obtain ⟨gr, hgr⟩ : ∃ gr : Nat, w_T b (k' + 1) 6 = (gr : Int) := ⟨(w_T b (k' + 1) 6).toNat, by
      have := w_Ii s1'
      unfold w_I at this
      omega⟩
    refine ⟨r, M2, k' + 1, 2 * l, gr, e15.trans y1, y3, y2, by omega, s2', by omega, by omega, hgr, Or.inl ⟨e, tl.mpr ⟨v1, v2, v3⟩, y4, ?_, fun _ => ⟨?_, ?_, fun j hj => ?_, ?_, fun d d0 d1 => ?_, fun x x0 hx hn => ?_⟩, fun h => absurd (hc.symm.trans h) (by decide), fun h => absurd (hc.symm.trans h) (by decide), fun h => absurd (hc.symm.trans h) (by decide)⟩⟩
    · rw [y5 _ (by omega) (by omega), Gn _ (by omega), v6 1 (by decide) (by decide) (by omega)]
      exact z0.2.1 1 (by decide) (by decide)
    · rw [y5 _ (by omega) (by omega), Gn _ (by omega)]
      have := v6 0 (by decide) (by decide) (by omega)
      rw [Int.add_zero] at this
      rw [this]
      exact z0.1
    · rw [y5 _ (by omega) (by omega), Gn _ (by omega), v7, show 2 * l / 2 = l by omega]
    · rw [show 2 * l / 2 = l by omega] at hj
      obtain ⟨q1, q2⟩ := v4 j hj
      exact ⟨(y5 _ (by omega) (by omega)).trans ((Gn _ (by omega)).trans q1), (y5 _ (by omega) (by omega)).trans ((Gn _ (by omega)).trans q2)⟩
    · rw [y5 _ (by omega) (by omega), Gs]
    · rw [y5 _ (by omega) (by omega), Gn _ (by omega), v6 d (by omega) d1 (by omega)]
      exact z0.2.1 d (by omega) d1
    · rw [y5 _ x0 hn, Gn _ (by omega), v5 x x0 hx]
      exact z0.2.2 x x0 hx
  · have T : ∃ M2, E_V 188 189 [192, (p : Int), 99, 0, r] N1 = some (r, M2) ∧ y_B b n (k' + 1) M2 ∧ y_fr M M2 := by
      obtain ⟨o1, o2⟩ := y_on B1 u5
      have f2 := y_fr_t f1 o1
      have h15 := B1.2.1
      obtain ⟨M1, hM1⟩ : ∃ M1, e_up N1 192 15 ((k' : Int) + 1) = M1 := ⟨_, rfl⟩
      rw [hM1] at o2 f2
      have ll : e_op 60 [193, 1198] M1 = some (r_G M1 1198) := r_rd (by decide) (by decide)
      have st : ∀ v, e_st 100 [193, 1198, v] M1 = some (e_up M1 193 1198 v) := fun v => r_stw (i := 1198) (by decide) (by decide)
      refine ⟨_, y_m189 h15 (y_k1 B1) hM1 ll rfl st, y_Bw (i := 1198) o2 ?_, y_frw (i := 1198) f2⟩
      unfold e_w
      omega
    obtain ⟨M2, y1, y2, y3⟩ := T
    obtain ⟨gr, hgr⟩ : ∃ gr : Nat, w_T b (k' + 1) 6 = (gr : Int) := ⟨(w_T b (k' + 1) 6).toNat, by
      have := w_Ii s1'
      unfold w_I at this
      omega⟩
    exact ⟨r, M2, k' + 1, 2 * l, gr, e15.trans y1, y3, y2, by omega, s2', by omega, by omega, hgr, Or.inr ⟨e, fun h => v1 (tl.mp h)⟩⟩
end YQ2
