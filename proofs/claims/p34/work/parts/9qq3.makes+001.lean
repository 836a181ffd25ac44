section YQ3
variable {b : Nat → Int} {n k : Nat} {N M : EM} {p : Nat} {X G D : Nat → Int} {f : Nat}
theorem y_mkB (hA : w_A b n) (hz : w_T b n 2 = 0) (hp : p < 40) (hX : y_X b n X) {x4 : Int} {Z : EM} (hB : y_B b n k Z) (hk : k < n) (hf : y_fr M Z) (h0 : ∀ e : Int, 0 ≤ e → e < 28 → r_G Z (28 * (p : Int) + e) = 0) (ho : ∀ x, 0 ≤ x → (x < 28 * (p : Int) ∨ 28 * (p : Int) + 28 ≤ x) → r_G Z x = r_G M x) (h2 : w_T b k 2 = 0) (hc : b k = 98) (h8 : w_T b k 8 = (f : Int)) (hpc : r_G M 1198 = p) : y_MK b n k M p X G D f (E_V 188 19 [192, (p : Int), 28, 0, x4] Z) := by
  obtain ⟨a1, a2, a3, a4, a5, a6, a7, a8⟩ := y_bgn (w_Al hA (Nat.le_of_lt hk)) h2 (Or.inr (Or.inr (Or.inr hc)))
  obtain ⟨B0, f0, z0⟩ := y_kind (kd := 3) hp hB hf h0 ho ⟨by decide, by decide⟩
  have ks := r_sign (y_ty hB)
  rw [y_sg hB, y_sb hk, hc] at ks
  obtain ⟨Z0, hZ0⟩ : ∃ Z0, e_up Z 193 (28 * (p : Int)).toNat 3 = Z0 := ⟨_, rfl⟩
  rw [hZ0] at B0 f0 z0
  have hmay := y_may2 (p := (p : Int)) (ks := 7) (by omega)
  obtain ⟨r, M', k', l, u1, u2, u3, u4, u5, u6, u7, u8, u9, u10, u11, u12, u13⟩ := y_over (g0 := r_G Z0) (f := f) (N := M) (most := 1) (Q := y_Q 7) hA hz hp (by decide) hmay hX _ k Z0 0 1 0 0 (Nat.le_refl _) B0 hk f0 a2 (Or.inr (a3.trans hc)) a5 (by omega) ⟨by decide, Or.inl ⟨rfl, rfl, by decide, fun j hj => absurd hj (Nat.not_lt_zero _), ⟨fun j hj => absurd hj (Nat.not_lt_zero _), fun _ _ _ _ => rfl⟩, fun _ _ _ _ => rfl⟩⟩ (fun _ _ _ => rfl)
  have u1' : E_V 187 6 [192, (p : Int), 1, 7, 0, 1, 0] Z0 = some (r, M') := u1
  have kC : E_C 187 [192, (p : Int), 1, 7] Z0 = some (r, M') := by
    rw [← u1']
    rw [r_ent (show e_rok 187 [192, (p : Int), 1, 7] = true from decide_eq_true r_ref)]
    show e_tv E_C (E_V 187) e_t187_0 [192, (p : Int), 1, 7, 0, 0, 0] Z0 = _
    unfold e_t187_0
    simp [e_tv, e_ev, e_sv, e_b1, e_b2, x_o1, x_o2]
  have b1 : 0 ≤ 28 * (p : Int) ∧ 28 * (p : Int) < 1330 := by omega
  have b5 : 0 ≤ 28 * (p : Int) + 5 ∧ 28 * (p : Int) + 5 < 1330 := by omega
  have b6 : 0 ≤ 28 * (p : Int) + 6 ∧ 28 * (p : Int) + 6 < 1330 := by omega
  have hk5 : 28 * (p : Int) + 5 ≥ 1 := by omega
  have hk6 : 28 * (p : Int) + 6 ≥ 1 := by omega
  have n56 : 28 * (p : Int) + 5 ≠ 28 * (p : Int) + 6 := by omega
  have s1 := fun v => r_stw (i := 28 * (p : Int)) (v := v) (M := Z) b1.1 b1.2
  have s5 := fun v => r_stw (i := 28 * (p : Int) + 5) (v := v) (M := M') b5.1 b5.2
  have s6 := fun v M => r_stw (i := 28 * (p : Int) + 6) (v := v) (M := M) b6.1 b6.2
  obtain ⟨N1, hN1⟩ : ∃ N1, e_up (e_up M' 193 (28 * (p : Int) + 5).toNat 5) 193 (28 * (p : Int) + 6).toNat 1 = N1 := ⟨_, rfl⟩
  have G5 : r_G N1 (28 * (p : Int) + 5) = 5 := by rw [← hN1]; exact (r_G_n hk6 n56).trans r_G_s
  have G6 : r_G N1 (28 * (p : Int) + 6) = 1 := by rw [← hN1]; exact r_G_s
  have Gn : ∀ x, x ≠ 28 * (p : Int) + 5 → x ≠ 28 * (p : Int) + 6 → r_G N1 x = r_G M' x := fun x x1 x2 => by rw [← hN1]; exact (r_G_n hk6 x2).trans (r_G_n hk5 x1)
  have B1 : y_B b n k' N1 := by rw [← hN1]; exact y_Bw (y_Bw u2 ⟨by decide, by decide⟩) ⟨by decide, by decide⟩
  have f1 : y_fr M N1 := by rw [← hN1]; exact y_frw (y_frw u3)
  obtain ⟨s1', s2', s3', s4', s5', s6', s7', s8'⟩ := y_smc (w_Al hA (Nat.le_of_lt u5)) u7 u5 u6 u8 (by omega)
  have tl : y_tl (r_G M) p X (b k) f l ↔ (l ≤ 1 ∧ ∀ j, j < l → y_J (r_G Z0) p (y_Q 7) X f j) := by
    unfold y_tl
    rw [hc]
    refine ⟨fun h => ?_, fun h => Or.inr (Or.inr (Or.inr ⟨rfl, h.1, fun j hj => (y_J_eq z0).mp (h.2 j hj)⟩))⟩
    rcases h with h | h | h | h
    · exact absurd h.1 (by decide)
    · exact absurd h.1 (by decide)
    · exact absurd h.1 (by decide)
    · exact ⟨h.2.1, fun j hj => (y_J_eq z0).mpr (h.2.2 j hj)⟩
  have e15 : E_V 188 19 [192, (p : Int), 28, 0, x4] Z = E_V 188 189 [192, (p : Int), 98, 3, r] N1 := by
    obtain ⟨w1, w2, w3, -⟩ := y_kw hp
    rw [← hZ0] at kC
    rw [← hN1]
    exact (y_mB ks (by decide) (by decide) (by decide) w1 s1 kC).trans (y_m159y w1 w2 w3 s5 s6)
  obtain ⟨gr, hgr⟩ := y_gr6 s1'
  rcases u13 with ⟨e, v1, v2, v3, v4, v5⟩ | ⟨e, j, v1, v2⟩
  · have hXp : ∀ j, j < l → 0 ≤ X (f + j) ∧ X (f + j) < p := fun j hj => (v2 j hj).1
    have h1198 : r_G N1 1198 = p := by
      rw [Gn _ (by omega) (by omega), v3.2 _ (by decide) (Or.inr (by omega)) (fun j hj => by have := hXp j hj; omega), z0.2.2 _ (by decide) (Or.inr (by omega))]
      exact hpc
    obtain ⟨M2, y1, y2, y3, y4, y5⟩ := y_fin (x2 := 98) (x3 := 3) (r := r) hp B1 u5 f1 h1198
    have MO := y_mo_of (g2 := r_G M2) hp z0 v3 hXp (by omega) (fun x x0 hn => ⟨fun _ q1 q2 => (y5 x x0 hn).trans (Gn x q1 q2), fun _ => (y5 x x0 hn).trans (Gn x (by omega) (by omega))⟩) (Or.inl (by omega))
    have zz : ∀ d, 4 ≤ d → d < 28 → d ≠ 5 → d ≠ 6 → r_G M2 (28 * (p : Int) + d) = 0 := fun d d0 d1 d5 d6 => by
      rw [y5 _ (by omega) (by omega), Gn _ (by omega) (by omega), v4 d (by omega) d1 (by omega)]
      exact z0.2.1 d (by omega) d1
    refine ⟨r, M2, k' + 1, l, gr, e15.trans y1, y3, y2, by omega, s2', by omega, by omega, hgr, Or.inl ⟨e, tl.mpr ⟨v1, v2⟩, y4, ?_, fun h => absurd (hc.symm.trans h) (by decide), fun h => absurd (hc.symm.trans h) (by decide), fun h => absurd (hc.symm.trans h) (by decide), fun _ => ⟨?_, ?_, MO, zz 4 (by decide) (by decide) (by decide) (by decide), ?_, ?_, zz 7 (by decide) (by decide) (by decide) (by decide), zz 8 (by decide) (by decide) (by decide) (by decide)⟩⟩⟩
    · rw [y5 _ (by omega) (by omega), Gn _ (by omega) (by omega), v4 1 (by decide) (by decide) (by omega)]
      exact z0.2.1 1 (by decide) (by decide)
    · rw [y5 _ (by omega) (by omega), Gn _ (by omega) (by omega)]
      have := v4 0 (by decide) (by decide) (by omega)
      rw [Int.add_zero] at this
      rw [this]
      exact z0.1
    · rw [y5 _ (by omega) (by omega), Gn _ (by omega) (by omega), v5]
    · rw [y5 _ (by omega) (by omega), G5]
    · rw [y5 _ (by omega) (by omega), G6]
  · obtain ⟨M2, y1, y2, y3⟩ := y_fin0 (p := p) (x2 := 98) (x3 := 3) (r := r) B1 u5 f1
    exact ⟨r, M2, k' + 1, l, gr, e15.trans y1, y3, y2, by omega, s2', by omega, by omega, hgr, Or.inr ⟨e, fun h => by
      obtain ⟨h1, h2⟩ := tl.mp h
      rcases v2 with v2 | v2
      · exact v2 (h2 j v1)
      · omega⟩⟩
/-- one STATEMENT -/
theorem y_makes (hA : w_A b n) (hz : w_T b n 2 = 0) (hX : y_X b n X) (hXG : y_XG b n G D) (hB : y_B b n k M) (hk : k < n) (h2 : w_T b k 2 = 0) (h8 : w_T b k 8 = (f : Int)) (hpc : r_G M 1198 = p) (hp : p ≤ 40) : (p = 40 ∧ E_C 188 [192] M = some (0, M)) ∨ (p < 40 ∧ y_MK b n k M p X G D f (E_C 188 [192] M)) := by
  have l : e_op 60 [193, 1198] M = some (p : Int) := (r_rd (by decide) (by decide)).trans (congrArg some hpc)
  by_cases c : p = 40
  · refine Or.inl ⟨c, ?_⟩
    subst c
    exact y_m0 l
  · have hp' : p < 40 := by omega
    refine Or.inr ⟨hp', ?_⟩
    rw [y_m1 l (by omega)]
    obtain ⟨Z, k1, B1, f1, z1, z2⟩ := y_zero (N := M) (g := r_G M) (x4 := 0) hp' 28 0 M (by decide) hB (fun _ _ _ _ => rfl) (fun e e0 e1 => by omega) (fun _ _ _ => rfl)
    have k1' : E_V 188 19 [192, (p : Int), 0, 0, 0] M = E_V 188 19 [192, (p : Int), 28, 0, 0] Z := k1
    rw [k1']
    have ok := hA k hk
    unfold w_ok at ok
    rw [if_pos h2] at ok
    rcases ok with ok | ok | ok | ok
    · exact y_mkC hA hz hp' hX B1 hk f1 z1 z2 h2 ok h8 hpc
    · exact y_mkR hA hz hp' hX hXG B1 hk f1 z1 z2 h2 ok h8 hpc
    · exact y_mkF hA hz hp' hX B1 hk f1 z1 z2 h2 ok h8 hpc
    · exact y_mkB hA hz hp' hX B1 hk f1 z1 z2 h2 ok h8 hpc
end YQ3
