section YCE
variable {b : Nat → Int} {n : Nat} {p : Nat} {N : EM} {X : Nat → Int} {g0 : Int → Int} {f : Nat}
theorem y_c4 (hA : w_A b n) (hz : w_T b n 2 = 0) (hp : p < 40) (hX : y_X b n X) : ∀ (m k : Nat) (M : EM) (x2 x3 x4 x5 : Int) (i : Nat), n - k ≤ m → y_B b n k M → k < n → y_fr N M → w_T b (k + 1) 2 = 1 → w_T b (k + 1) 3 = 99 → w_T b (k + 1) 4 = 0 → w_T b (k + 1) 5 = 0 → w_T b (k + 1) 8 = ((f + 2 * i : Nat) : Int) → y_IC g0 p X f i M x2 x3 → y_CE b n N g0 p X f k i (E_V 184 4 [192, (p : Int), x2, x3, x4, x5] M) := by
  intro m
  induction m with
  | zero =>
    intro k M x2 x3 x4 x5 i hm hB hk
    omega
  | succ m ih =>
    intro k M x2 x3 x4 x5 i hm hB hk hf h2 h3 h4 h5 h8 hI
    obtain ⟨o1, o2⟩ := y_on hB hk
    have A1 := w_Al hA (show k + 1 ≤ n by omega)
    have h15 := hB.2.1
    have dg := y_dig hA hz o2.2.2.1 h2 (by omega)
    obtain ⟨k1, M2, g2, t2, B2, ⟨z1, z2, z3, z4, z5, z6, z7, z8, z9, z10, z11⟩, num⟩ := (y_num o2 A1 h2).2 dg
    obtain ⟨l1, sg⟩ := y_sig hA hz z2 z5
    have e47 : b k1 = 47 := by omega
    obtain ⟨a1, a2, a3, a4, a5, a6, a7, a8⟩ := y_sla z4 z5 l1 e47 (by omega) (by omega)
    obtain ⟨o3, o4⟩ := y_on B2 l1
    have dg2 := y_dig hA hz o4.2.2.1 a2 (by omega)
    obtain ⟨k2, M4, g4, t4, B4, ⟨y1, y2, y3, y4, y5, y6, y7, y8, y9, y10, y11⟩, num2⟩ := (y_num o4 a1 a2).2 dg2
    obtain ⟨l2, sg2⟩ := y_sig hA hz y2 y5
    have hx1 := hX (k + 1) dg.1 z3
    rw [h8, Int.toNat_natCast, ← num] at hx1
    have hx2 := hX (k1 + 1) dg2.1 y3
    have h8' : w_T b (k1 + 1) 8 = ((f + 2 * i + 1 : Nat) : Int) := by omega
    rw [h8', Int.toNat_natCast, ← num2] at hx2
    have v1 := y_v99 (n := n) z3
    rw [← num] at v1
    have v2 := y_v99 (n := n) y3
    rw [← num2] at v2
    have f4 : y_fr N M4 := y_fr_t (y_fr_t (y_fr_t (y_fr_t hf o1) t2) o3) t4
    have eG : r_G M4 = r_G M := (y_G_t t4).trans ((y_G_t o3).trans ((y_G_t t2).trans (y_G_t o1)))
    have h15' := B2.2.1
    obtain ⟨M1, hM1⟩ : ∃ M1, e_up M 192 15 ((k : Int) + 1) = M1 := ⟨_, rfl⟩
    obtain ⟨M3, hM3⟩ : ∃ M3, e_up M2 192 15 ((k1 : Int) + 1) = M3 := ⟨_, rfl⟩
    rw [hM1] at g2
    rw [hM3] at g4
    have s59 : b k2 = 32 ∨ b k2 = 59 := by omega
    -- behind the point
    have tail : ∀ (N1 : EM) (y2 y3 y5' : Int), y_B b n k2 N1 → y_fr N N1 → y_IC g0 p X f (i + 1) N1 y2 y3 → y_CE b n N g0 p X f k i (E_V 184 101 [192, (p : Int), y2, y3, 1, y5'] N1) := by
      intro N1 w2 w3 w5 BN fN IN
      rcases s59 with c | c
      · obtain ⟨c1, c2, c3, c4, c5, c6, c7, c8⟩ := y_spc y4 y5 l2 c (by omega) (by omega)
        have ks := r_sign (y_ty BN)
        rw [y_sg BN, y_sb l2, c] at ks
        obtain ⟨r, M', k', l, u1, u2, u3, u4, u5, u6, u7, u8, u9, u10, u11, u12, u13⟩ := ih k2 N1 w2 w3 1 w5 (i + 1) (by omega) BN l2 fN c2 (by omega) c4 (by omega) (by omega) IN
        exact ⟨r, M', k', l, (y_c101a ks).trans u1, u2, u3, by omega, u5, u6, u7, u8, u9, u10, by omega, by omega, u13⟩
      · obtain ⟨r, M', u1, u2, u3, u4⟩ := y_cend (x4 := 1) (x5 := w5) hp (l := i + 1) (by omega) BN l2 fN c IN
        exact ⟨r, M', k2, i + 1, u1, u2, u3, by omega, l2, c, y5, by omega, by omega, by omega, by omega, by omega, by omega, u4⟩
    obtain ⟨i1, i2⟩ := hI
    rw [← eG] at i2
    by_cases c : x3 = 1 ∧ i < 6
    · obtain ⟨c0, c1⟩ := c
      have i2 := i2.resolve_right (fun e => absurd (e.1.symm.trans c0) (by decide))
      obtain ⟨e1, e2, e3, e4, e5, e6⟩ := i2
      subst e1
      subst e2
      have b0 : 0 ≤ (28 * (p : Int) + 3 + (i : Int)) ∧ (28 * (p : Int) + 3 + (i : Int)) < 1330 := by omega
      have b1 : 0 ≤ (28 * (p : Int) + 9 + (i : Int)) ∧ (28 * (p : Int) + 9 + (i : Int)) < 1330 := by omega
      have s1 := fun v => r_stw (i := 28 * (p : Int) + 3 + (i : Int)) (v := v) (M := M4) b0.1 b0.2
      have s2 := fun v M => r_stw (i := 28 * (p : Int) + 9 + (i : Int)) (v := v) (M := M) b1.1 b1.2
      have hk1 : 28 * (p : Int) + 3 + (i : Int) ≥ 1 := by omega
      have hk2 : 28 * (p : Int) + 9 + (i : Int) ≥ 1 := by omega
      have n12 : (28 * (p : Int) + 3 + (i : Int)) ≠ 28 * (p : Int) + 9 + (i : Int) := by omega
      obtain ⟨N1, hN1⟩ : ∃ N1, e_up (e_up M4 193 (28 * (p : Int) + 3 + (i : Int)).toNat (M2 192 18)) 193 (28 * (p : Int) + 9 + (i : Int)).toNat (M4 192 18) = N1 := ⟨_, rfl⟩
      have G1 : r_G N1 (28 * (p : Int) + 3 + (i : Int)) = M2 192 18 := by rw [← hN1]; exact (r_G_n hk2 n12).trans r_G_s
      have G2 : r_G N1 (28 * (p : Int) + 9 + (i : Int)) = M4 192 18 := by rw [← hN1]; exact r_G_s
      have G3 : ∀ x, x ≠ 28 * (p : Int) + 3 + (i : Int) → x ≠ 28 * (p : Int) + 9 + (i : Int) → r_G N1 x = r_G M4 x := fun x x1 x2 => by rw [← hN1]; exact (r_G_n hk2 x2).trans (r_G_n hk1 x1)
      have BN : y_B b n k2 N1 := by rw [← hN1]; exact y_Bw (y_Bw B4 ⟨by omega, by omega⟩) ⟨by omega, by omega⟩
      have fN : y_fr N N1 := by rw [← hN1]; exact y_frw (y_frw f4)
      have I1 : y_IC g0 p X f (i + 1) N1 ((i : Int) + 1) 1 := by
        clear s1 s2 tail ih g2 g4 hN1 hM1 hM3
        refine ⟨by omega, Or.inl ⟨rfl, by omega, by omega, fun j hj => ?_, fun x x0 hx => ?_, fun x x0 x1 hs => ?_⟩⟩
        · by_cases e : j = i
          · subst e
            exact ⟨G1.trans hx1.symm, G2.trans hx2.symm⟩
          · obtain ⟨u1, u2⟩ := e4 j (by omega)
            exact ⟨(G3 _ (by omega) (by omega)).trans u1, (G3 _ (by omega) (by omega)).trans u2⟩
        · exact (G3 _ (by omega) (by omega)).trans (e5 x x0 hx)
        · rw [G3 _ (fun e => hs (Or.inl ⟨by omega, by omega⟩)) (fun e => hs (Or.inr ⟨by omega, by omega⟩))]
          exact e6 x x0 x1 (fun e => hs (by omega))
      have T := tail N1 ((i : Int) + 1) 1 (M2 192 18) BN fN I1
      have c1i : (i : Int) < 6 := by omega
      have hp' : 0 ≤ (p : Int) ∧ (p : Int) < 40 := by omega
      have wk := y_k1 hB
      have wk1 := y_k1 B2
      obtain ⟨w1, -, -, w4, w5, -, -, w8, w9, w10⟩ := y_cws (P := (p : Int)) (I := (i : Int)) hp' i1
      rw [y_c4y h15 wk hM1 g2 rfl h15' wk1 hM3 g4 rfl c1i w1 w4 w5 w8 w9 w10 s1 s2 hN1]
      exact T
    · have I1 : y_IC g0 p X f (i + 1) M4 x2 0 := by
        refine ⟨i1, Or.inr ⟨rfl, ?_⟩⟩
        rcases i2 with i2 | i2
        · have : ¬ i < 6 := fun e => c ⟨i2.1, e⟩
          omega
        · omega
      have hx : x3 = 0 ∨ ¬ x2 < 6 := by
        rcases i2 with i2 | i2
        · have : ¬ i < 6 := fun e => c ⟨i2.1, e⟩
          exact Or.inr (by omega)
        · exact Or.inl i2.1
      have T := tail M4 x2 0 (M2 192 18) B4 f4 I1
      rw [y_c4n h15 (y_k1 hB) hM1 g2 rfl h15' (y_k1 B2) hM3 g4 hx]
      exact T
end YCE
