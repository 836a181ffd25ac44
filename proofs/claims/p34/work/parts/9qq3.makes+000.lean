section YQ3
variable {b : Nat → Int} {n k : Nat} {N M : EM} {p : Nat} {X G D : Nat → Int} {f : Nat}
theorem y_fin0 {x2 x3 r : Int} {k' : Nat} {N1 : EM} (B1 : y_B b n k' N1) (u5 : k' < n) (f1 : y_fr M N1) : ∃ M2, E_V 188 189 [192, (p : Int), x2, x3, r] N1 = some (r, M2) ∧ y_B b n (k' + 1) M2 ∧ y_fr M M2 := by
  obtain ⟨o1, o2⟩ := y_on B1 u5
  have f2 := y_fr_t f1 o1
  have h15 := B1.2.1
  obtain ⟨M1, hM1⟩ : ∃ M1, e_up N1 192 15 ((k' : Int) + 1) = M1 := ⟨_, rfl⟩
  rw [hM1] at o2 f2
  have ll : e_op 60 [193, 1198] M1 = some (r_G M1 1198) := r_rd (by decide) (by decide)
  have st : ∀ v, e_st 100 [193, 1198, v] M1 = some (e_up M1 193 1198 v) := fun v => r_stw (i := 1198) (by decide) (by decide)
  refine ⟨_, y_m189 h15 (y_k1 B1) hM1 ll rfl st, y_Bw (i := 1198) o2 ?_, y_frw (i := 1198) f2⟩
  unfold e_w
  omega
theorem y_gpb {G : Nat → Int} {f l gr j : Nat} (h : y_gp G f l ((gr : Int) - 1)) (hg : gr ≤ l) (hl : l ≤ 8) (hj : j < l) : 0 ≤ G (f + j) ∧ G (f + j) ≤ 8 := by
  obtain ⟨h1, h2, h3⟩ := h
  have up : ∀ i, i < l → 0 ≤ G (f + i) ∧ G (f + i) ≤ i := by
    intro i
    induction i with
    | zero =>
      intro hi
      have := (h2 hi).1
      show 0 ≤ G f ∧ G f ≤ _
      omega
    | succ i ih =>
      intro hi
      have a := ih (by omega)
      have c := h3 i hi
      omega
  have := up j hj
  omega
theorem y_gr6 {k : Nat} (hA : w_A b k) : ∃ gr : Nat, w_T b k 6 = (gr : Int) := ⟨(w_T b k 6).toNat, by
  have := w_Ii hA
  unfold w_I at this
  omega⟩
theorem y_mkR (hA : w_A b n) (hz : w_T b n 2 = 0) (hp : p < 40) (hX : y_X b n X) (hXG : y_XG b n G D) {x4 : Int} {Z : EM} (hB : y_B b n k Z) (hk : k < n) (hf : y_fr M Z) (h0 : ∀ e : Int, 0 ≤ e → e < 28 → r_G Z (28 * (p : Int) + e) = 0) (ho : ∀ x, 0 ≤ x → (x < 28 * (p : Int) ∨ 28 * (p : Int) + 28 ≤ x) → r_G Z x = r_G M x) (h2 : w_T b k 2 = 0) (hc : b k = 114) (h8 : w_T b k 8 = (f : Int)) (hpc : r_G M 1198 = p) : y_MK b n k M p X G D f (E_V 188 19 [192, (p : Int), 28, 0, x4] Z) := by
  obtain ⟨a1, a2, a3, a4, a5, a6, a7, a8⟩ := y_bgn (w_Al hA (Nat.le_of_lt hk)) h2 (Or.inr (Or.inl hc))
  obtain ⟨B0, f0, z0⟩ := y_kind (kd := 1) hp hB hf h0 ho ⟨by decide, by decide⟩
  have ks := r_sign (y_ty hB)
  rw [y_sg hB, y_sb hk, hc] at ks
  obtain ⟨Z0, hZ0⟩ : ∃ Z0, e_up Z 193 (28 * (p : Int)).toNat 1 = Z0 := ⟨_, rfl⟩
  rw [hZ0] at B0 f0 z0
  have hmay := y_may2 (p := (p : Int)) (ks := 1) (by omega)
  obtain ⟨r, M', k', l, gr, u1, u2, u3, u4, u5, u6, u7, u8, u9, u10, u11, u12, u13, u14, u15, u16⟩ := y_r7 (g0 := r_G Z0) (f := f) (N := M) (Q := y_Q 1) hA hz hp hmay hX hXG _ k (Nat.le_refl _) Z0 0 1 0 0 0 0 0 B0 hk f0 a2 (a3.trans hc) a5 (by omega) (by omega) ⟨by decide, Or.inl ⟨rfl, rfl, by decide, fun j hj => absurd hj (Nat.not_lt_zero _), ⟨fun j hj => absurd hj (Nat.not_lt_zero _), fun _ _ _ _ => rfl⟩, fun j hj => absurd hj (Nat.not_lt_zero _), fun _ _ _ _ => rfl⟩⟩ (fun j hj => absurd hj (Nat.not_lt_zero _)) ⟨fun _ => rfl, fun h => absurd h (Nat.lt_irrefl _), fun j hj => absurd hj (Nat.not_lt_zero _)⟩ (Nat.le_refl _) (fun _ _ _ => rfl)
  have u1' : E_V 186 7 [192, (p : Int), 0, 0, 1, 0, 0, 0] Z0 = some (r, M') := u1
  have kC : E_C 186 [192, (p : Int)] Z0 = some (r, M') := by
    rw [← u1']
    rw [r_ent (show e_rok 186 [192, (p : Int)] = true from decide_eq_true r_ref)]
    show e_tv E_C (E_V 186) e_t186_0 [192, (p : Int), 0, 0, 0, 0, 0, 0] Z0 = _
    unfold e_t186_0
    simp [e_tv, e_ev, e_sv, e_b1, e_b2, x_o1, x_o2]
  have b1 : 0 ≤ 28 * (p : Int) ∧ 28 * (p : Int) < 1330 := by omega
  have s1 := fun v => r_stw (i := 28 * (p : Int)) (v := v) (M := Z) b1.1 b1.2
  obtain ⟨s1', s2', s3', s4', s5', s6', s7', s8'⟩ := y_smc (w_Al hA (Nat.le_of_lt u5)) u7 u5 u6 u8 (by omega)
  have tl : y_tl (r_G M) p X (b k) f l ↔ (l ≤ 8 ∧ ∀ j, j < l → y_J (r_G Z0) p (y_Q 1) X f j) := by
    unfold y_tl
    rw [hc]
    refine ⟨fun h => ?_, fun h => Or.inr (Or.inl ⟨rfl, h.1, fun j hj => (y_J_eq z0).mp (h.2 j hj)⟩)⟩
    rcases h with h | h | h | h
    · exact absurd h.1 (by decide)
    · exact ⟨h.2.1, fun j hj => (y_J_eq z0).mpr (h.2.2 j hj)⟩
    · exact absurd h.1 (by decide)
    · exact absurd h.1 (by decide)
  have e15 : E_V 188 19 [192, (p : Int), 28, 0, x4] Z = E_V 188 189 [192, (p : Int), 114, 1, r] M' := by
    obtain ⟨w1, -⟩ := y_kw hp
    rw [← hZ0] at kC
    exact (y_mR ks w1 s1 kC).trans (y_m159n (by decide))
  rcases u16 with ⟨e, v1, v2, v3, v4, v5, v6, v7, v8⟩ | ⟨e, j, v1, v2⟩
  · have hXp : ∀ j, j < l → 0 ≤ X (f + j) ∧ X (f + j) < p := fun j hj => (v2 j hj).1
    have h1198 : r_G M' 1198 = p := by
      rw [v3.2 _ (by decide) (Or.inr (by omega)) (fun j hj => by have := hXp j hj; omega), z0.2.2 _ (by decide) (Or.inr (by omega))]
      exact hpc
    obtain ⟨M2, y1, y2, y3, y4, y5⟩ := y_fin (x2 := 114) (x3 := 1) (r := r) hp u2 u5 u3 h1198
    have MO := y_mo_of (g2 := r_G M2) hp z0 v3 hXp v1 (fun x x0 hn => ⟨fun _ _ _ => y5 x x0 hn, fun _ => y5 x x0 hn⟩) (Or.inr (fun x x0 hn => y5 x x0 hn))
    have gG : ∀ j, j < l → 0 ≤ G (f + j) ∧ G (f + j) ≤ 8 := fun j hj => y_gpb u14 u15 v1 hj
    refine ⟨r, M2, k' + 1, l, gr, e15.trans y1, y3, y2, by omega, s2', by omega, by omega, by omega, Or.inl ⟨e, tl.mpr ⟨v1, v2⟩, y4, ?_, fun h => absurd (hc.symm.trans h) (by decide), fun _ => ⟨?_, ?_, MO, fun j hj => ?_, ?_, u14, u15⟩, fun h => absurd (hc.symm.trans h) (by decide), fun h => absurd (hc.symm.trans h) (by decide)⟩⟩
    · rw [y5 _ (by omega) (by omega), v6]
      exact z0.2.1 1 (by decide) (by decide)
    · rw [y5 _ (by omega) (by omega), v5]
      exact z0.1
    · rw [y5 _ (by omega) (by omega), v7]
    · obtain ⟨q1, q2⟩ := v4 j hj
      have := gG j hj
      exact ⟨(y5 _ (by omega) (by omega)).trans q1, (y5 _ (by omega) (by omega)).trans q2⟩
    · rw [y5 _ (by omega) (by omega), v8]
  · obtain ⟨M2, y1, y2, y3⟩ := y_fin0 (p := p) (x2 := 114) (x3 := 1) (r := r) u2 u5 u3
    exact ⟨r, M2, k' + 1, l, gr, e15.trans y1, y3, y2, by omega, s2', by omega, by omega, by omega, Or.inr ⟨e, fun h => by
      obtain ⟨h1, h2⟩ := tl.mp h
      rcases v2 with v2 | v2
      · exact v2 (h2 j v1)
      · omega⟩⟩
theorem y_mkF (hA : w_A b n) (hz : w_T b n 2 = 0) (hp : p < 40) (hX : y_X b n X) {x4 : Int} {Z : EM} (hB : y_B b n k Z) (hk : k < n) (hf : y_fr M Z) (h0 : ∀ e : Int, 0 ≤ e → e < 28 → r_G Z (28 * (p : Int) + e) = 0) (ho : ∀ x, 0 ≤ x → (x < 28 * (p : Int) ∨ 28 * (p : Int) + 28 ≤ x) → r_G Z x = r_G M x) (h2 : w_T b k 2 = 0) (hc : b k = 102) (h8 : w_T b k 8 = (f : Int)) (hpc : r_G M 1198 = p) : y_MK b n k M p X G D f (E_V 188 19 [192, (p : Int), 28, 0, x4] Z) := by
  obtain ⟨a1, a2, a3, a4, a5, a6, a7, a8⟩ := y_bgn (w_Al hA (Nat.le_of_lt hk)) h2 (Or.inr (Or.inr (Or.inl hc)))
  obtain ⟨B0, f0, z0⟩ := y_kind (kd := 2) hp hB hf h0 ho ⟨by decide, by decide⟩
  have ks := r_sign (y_ty hB)
  rw [y_sg hB, y_sb hk, hc] at ks
  obtain ⟨Z0, hZ0⟩ : ∃ Z0, e_up Z 193 (28 * (p : Int)).toNat 2 = Z0 := ⟨_, rfl⟩
  rw [hZ0] at B0 f0 z0
  have hmay := y_may2 (p := (p : Int)) (ks := 3) (by omega)
  obtain ⟨r, M', k', l, u1, u2, u3, u4, u5, u6, u7, u8, u9, u10, u11, u12, u13⟩ := y_over (g0 := r_G Z0) (f := f) (N := M) (most := 6) (Q := y_Q 3) hA hz hp (by decide) hmay hX _ k Z0 0 1 0 0 (Nat.le_refl _) B0 hk f0 a2 (Or.inl (a3.trans hc)) a5 (by omega) ⟨by decide, Or.inl ⟨rfl, rfl, by decide, fun j hj => absurd hj (Nat.not_lt_zero _), ⟨fun j hj => absurd hj (Nat.not_lt_zero _), fun _ _ _ _ => rfl⟩, fun _ _ _ _ => rfl⟩⟩ (fun _ _ _ => rfl)
  have u1' : E_V 187 6 [192, (p : Int), 6, 3, 0, 1, 0] Z0 = some (r, M') := u1
  have kC : E_C 187 [192, (p : Int), 6, 3] Z0 = some (r, M') := by
    rw [← u1']
    rw [r_ent (show e_rok 187 [192, (p : Int), 6, 3] = true from decide_eq_true r_ref)]
    show e_tv E_C (E_V 187) e_t187_0 [192, (p : Int), 6, 3, 0, 0, 0] Z0 = _
    unfold e_t187_0
    simp [e_tv, e_ev, e_sv, e_b1, e_b2, x_o1, x_o2]
  have b1 : 0 ≤ 28 * (p : Int) ∧ 28 * (p : Int) < 1330 := by omega
  have s1 := fun v => r_stw (i := 28 * (p : Int)) (v := v) (M := Z) b1.1 b1.2
  obtain ⟨s1', s2', s3', s4', s5', s6', s7', s8'⟩ := y_smc (w_Al hA (Nat.le_of_lt u5)) u7 u5 u6 u8 (by omega)
  have tl : y_tl (r_G M) p X (b k) f l ↔ (l ≤ 6 ∧ ∀ j, j < l → y_J (r_G Z0) p (y_Q 3) X f j) := by
    unfold y_tl
    rw [hc]
    refine ⟨fun h => ?_, fun h => Or.inr (Or.inr (Or.inl ⟨rfl, h.1, fun j hj => (y_J_eq z0).mp (h.2 j hj)⟩))⟩
    rcases h with h | h | h | h
    · exact absurd h.1 (by decide)
    · exact absurd h.1 (by decide)
    · exact ⟨h.2.1, fun j hj => (y_J_eq z0).mpr (h.2.2 j hj)⟩
    · exact absurd h.1 (by decide)
  have e15 : E_V 188 19 [192, (p : Int), 28, 0, x4] Z = E_V 188 189 [192, (p : Int), 102, 2, r] M' := by
    obtain ⟨w1, -⟩ := y_kw hp
    rw [← hZ0] at kC
    exact (y_mF ks w1 s1 kC).trans (y_m159n (by decide))
  obtain ⟨gr, hgr⟩ := y_gr6 s1'
  rcases u13 with ⟨e, v1, v2, v3, v4, v5⟩ | ⟨e, j, v1, v2⟩
  · have hXp : ∀ j, j < l → 0 ≤ X (f + j) ∧ X (f + j) < p := fun j hj => (v2 j hj).1
    have h1198 : r_G M' 1198 = p := by
      rw [v3.2 _ (by decide) (Or.inr (by omega)) (fun j hj => by have := hXp j hj; omega), z0.2.2 _ (by decide) (Or.inr (by omega))]
      exact hpc
    obtain ⟨M2, y1, y2, y3, y4, y5⟩ := y_fin (x2 := 102) (x3 := 2) (r := r) hp u2 u5 u3 h1198
    have MO := y_mo_of (g2 := r_G M2) hp z0 v3 hXp (by omega) (fun x x0 hn => ⟨fun _ _ _ => y5 x x0 hn, fun _ => y5 x x0 hn⟩) (Or.inr (fun x x0 hn => y5 x x0 hn))
    refine ⟨r, M2, k' + 1, l, gr, e15.trans y1, y3, y2, by omega, s2', by omega, by omega, hgr, Or.inl ⟨e, tl.mpr ⟨v1, v2⟩, y4, ?_, fun h => absurd (hc.symm.trans h) (by decide), fun h => absurd (hc.symm.trans h) (by decide), fun _ => ⟨?_, ?_, MO⟩, fun h => absurd (hc.symm.trans h) (by decide)⟩⟩
    · rw [y5 _ (by omega) (by omega), v4 1 (by decide) (by decide) (by omega)]
      exact z0.2.1 1 (by decide) (by decide)
    · rw [y5 _ (by omega) (by omega)]
      have := v4 0 (by decide) (by decide) (by omega)
      rw [Int.add_zero] at this
      rw [this]
      exact z0.1
    · rw [y5 _ (by omega) (by omega), v5]
  · obtain ⟨M2, y1, y2, y3⟩ := y_fin0 (p := p) (x2 := 102) (x3 := 2) (r := r) u2 u5 u3
    exact ⟨r, M2, k' + 1, l, gr, e15.trans y1, y3, y2, by omega, s2', by omega, by omega, hgr, Or.inr ⟨e, fun h => by
      obtain ⟨h1, h2⟩ := tl.mp h
      rcases v2 with v2 | v2
      · exact v2 (h2 j v1)
      · omega⟩⟩
end YQ3
