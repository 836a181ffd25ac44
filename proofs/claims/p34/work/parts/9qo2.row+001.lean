section YR2
variable {b : Nat → Int} {n : Nat} {p : Nat} {N : EM} {X G D : Nat → Int} {g0 : Int → Int} {f : Nat} {Q : Int → Prop}
theorem y_r166 (hA : w_A b n) (hz : w_T b n 2 = 0) (hp : p < 40) {k0 : Nat} (hH : y_RH b n p Q N X G D g0 f k0) {k : Nat} {M : EM} {x2 x4 x5 x6 x7 : Int} {i gr : Nat} (hk0 : k0 < k) (hB : y_B b n k M) (hf : y_fr N M) (rd : y_rd b n k) (h3 : w_T b k 3 = 114) (h5 : w_T b k 5 = 0) (h8 : w_T b k 8 = ((f + i : Nat) : Int)) (h6 : w_T b k 6 = (gr : Int) + 1) (hI : y_IR g0 p Q X G D f i gr M x2 x4) (hd : x5 = 0 ∨ x5 = 1) (hG : y_gd G D f i gr x5) (hgp : y_gp G f i gr) (hgi : gr + 1 ≤ i) (hkd : ∀ x : Int, 0 ≤ x → x < p → g0 (28 * x) = r_G M (28 * x)) {i0 : Nat} (hi0 : i0 < i) (h7 : w_T b k 7 = w_T b (k0 + 1) 7) : y_RE b n N g0 p Q X G D f k0 i0 (E_V 186 166 [192, (p : Int), x2, (gr : Int), x4, x5, x6, x7] M) := by
  obtain ⟨i1, i2⟩ := hI
  rcases i2 with ⟨e1, e2, e3, e4, e5, e6, e7⟩ | ⟨e1, e2⟩
  · subst e1
    have b1 : 0 ≤ 28 * (p : Int) + 20 + (gr : Int) ∧ 28 * (p : Int) + 20 + (gr : Int) < 1330 := by omega
    have hk1 : 28 * (p : Int) + 20 + (gr : Int) ≥ 1 := by omega
    have s1 := fun v => r_stw (i := 28 * (p : Int) + 20 + (gr : Int)) (v := v) (M := M) b1.1 b1.2
    obtain ⟨v1, -, -, -, -, v6, v7, -⟩ := y_ws (P := (p : Int)) (I := (gr : Int)) (Qv := 0) (by omega) (by omega) (by decide)
    rw [y_l166 v1 v6 v7 s1 hd]
    clear v1 v6 v7 s1
    have Gs : r_G (e_up M 193 (28 * (p : Int) + 20 + (gr : Int)).toNat x5) (28 * (p : Int) + 20 + (gr : Int)) = x5 := r_G_s
    have Gn : ∀ x, x ≠ 28 * (p : Int) + 20 + (gr : Int) → r_G (e_up M 193 (28 * (p : Int) + 20 + (gr : Int)).toNat x5) x = r_G M x := fun x hx => r_G_n hk1 hx
    have BN := y_Bw (i := 28 * (p : Int) + 20 + (gr : Int)) (v := x5) hB ⟨by omega, by omega⟩
    have fN := y_frw (i := 28 * (p : Int) + 20 + (gr : Int)) (v := x5) hf
    generalize e_up M 193 (28 * (p : Int) + 20 + (gr : Int)).toNat x5 = N1 at Gs Gn BN fN ⊢
    refine y_r195 hA hz hp hH hk0 BN fN rd h3 h5 h8 h6 ⟨i1, Or.inl ⟨rfl, e2, e3, e4, ⟨fun j hj => ?_, fun x x0 hx hn => ?_⟩, fun j hj => ⟨?_, fun hlt => ?_⟩, fun x x0 x1 hs => ?_⟩⟩ (fun j hj => ⟨(hG j hj).1, (hG j hj).2.1⟩) hgp hgi (fun x x0 x1 => ?_) hi0 h7
    · obtain ⟨u1, u2⟩ := e5.1 j hj
      have hj2 := (e4 j hj).1
      exact ⟨(Gn _ (by omega)).trans u1, (Gn _ (by omega)).trans u2⟩
    · exact (Gn _ (by omega)).trans (e5.2 x x0 hx hn)
    · exact (Gn _ (by omega)).trans (e6 j hj).1
    · obtain ⟨q1, q2, q3⟩ := hG j hj
      by_cases c : G (f + j) = gr
      · rw [c, Gs, q3 c]
      · rw [Gn _ (by omega)]
        exact (e6 j hj).2 (by omega)
    · exact (Gn _ (fun e => hs (Or.inr (Or.inr ⟨by omega, by omega⟩)))).trans (e7 x x0 x1 (fun e => hs (by omega)))
    · rw [Gn _ (by omega)]
      exact hkd x x0 x1
  · subst e1
    rw [y_l166n]
    exact y_r195 hA hz hp hH hk0 hB hf rd h3 h5 h8 h6 ⟨i1, Or.inr ⟨rfl, e2⟩⟩ (fun j hj => ⟨(hG j hj).1, (hG j hj).2.1⟩) hgp hgi hkd hi0 h7
theorem y_r28 (hA : w_A b n) (hz : w_T b n 2 = 0) (hp : p < 40) (hmay : ∀ (q : Int) (M : EM), 0 ≤ q → (q < p ∧ Q (r_G M (28 * q)) ∧ r_G M (28 * q + 1) = 0 → E_C 185 [192, q, (p : Int), 1] M = some (1, M)) ∧ (¬ (q < p ∧ Q (r_G M (28 * q)) ∧ r_G M (28 * q + 1) = 0) → E_C 185 [192, q, (p : Int), 1] M = some (0, M))) (hX : y_X b n X) (hXG : y_XG b n G D) {k0 : Nat} (hH : y_RH b n p Q N X G D g0 f k0) {i0 : Nat} {gr : Nat} {d : Int} (hd : d = 0 ∨ d = 1) : ∀ (m k : Nat) (M : EM) (x2 x4 x7 : Int) (i : Nat), n - k ≤ m → k0 < k → y_B b n k M → y_fr N M → w_T b k 2 = 1 → w_T b k 3 = 114 → w_T b k 5 = d → (d = 0 → k < n → b k ≠ 91) → w_T b k 8 = ((f + i : Nat) : Int) → w_T b k 6 = (gr : Int) + 1 → w_T b k 7 = w_T b (k0 + 1) 7 → y_IR g0 p Q X G D f i gr M x2 x4 → y_gd G D f i gr d → (y_gp G f i ((gr : Int) - 1) ∨ (0 < i ∧ y_gp G f i gr)) → gr ≤ i → i0 ≤ i → (∀ x : Int, 0 ≤ x → x < p → g0 (28 * x) = r_G M (28 * x)) → y_RE b n N g0 p Q X G D f k0 i0 (E_V 186 28 [192, (p : Int), x2, (gr : Int), x4, d, 1, x7] M) := by
  intro m
  induction m with
  | zero =>
    intro k M x2 x4 x7 i hm hk0 hB hf h2
    have hk := hB.2.2.1
    have e : k = n := by omega
    rw [e] at h2
    omega
  | succ m ih =>
    intro k M x2 x4 x7 i hm hk0 hB hf h2 h3 h5 h91 h8 h6 h7 hI hG hgp hgi hi0 hkd
    have A1 := w_Al hA hB.2.2.1
    have hl : k < n := by
      rcases Nat.lt_or_ge k n with h | h
      · exact h
      · have hk := hB.2.2.1
        have e : k = n := by omega
        rw [e] at h2
        omega
    have ok := hA k hl
    unfold w_ok at ok
    rw [if_neg (by omega), if_pos h2] at ok
    have dg : 48 ≤ b k ∧ b k ≤ 57 := by
      rcases ok with ok | ok
      · exact ok
      · exact absurd ok.1 (h91 (by omega) hl)
    obtain ⟨k', M2, g2, t2, B2, ⟨z1, z2, z3, z4, z5, z6, z7, z8, z9, z10, z11⟩, num⟩ := (y_num hB A1 h2).2 ⟨hl, dg⟩
    have eG2 := y_G_t t2
    have f2 := y_fr_t hf t2
    have hx := hX k hl z3
    have hxg := hXG k hl z3
    rw [h8, Int.toNat_natCast, h6, h5] at hxg
    rw [h8, Int.toNat_natCast, ← num] at hx
    have v99 := y_v99 (n := n) z3
    rw [← num] at v99
    obtain ⟨q, hq⟩ : ∃ q : Nat, M2 192 18 = (q : Int) := ⟨(M2 192 18).toNat, by omega⟩
    rw [hq] at hx v99
    have hgi' : G (f + i) = gr := by omega
    have hgd' : D (f + i) = d := hxg.2
    obtain ⟨l', sg⟩ := y_sig hA hz z2 z5
    have hG1 : y_gd G D f (i + 1) gr d := fun j hj => by
      by_cases c : j = i
      · subst c
        exact ⟨by omega, by omega, fun _ => hgd'⟩
      · exact hG j (by omega)
    have hgp1 : y_gp G f (i + 1) gr := by
      rcases hgp with hgp | ⟨c, hgp⟩
      · exact y_gp_up hgp hgi' (Or.inl (by omega))
      · exact y_gp_up hgp hgi' (Or.inr ⟨rfl, c⟩)
    -- behind the number
    have tail : ∀ (N1 : EM) (y2 y4 : Int), y_B b n k' N1 → y_fr N N1 → y_IR g0 p Q X G D f (i + 1) gr N1 y2 y4 → (∀ x : Int, 0 ≤ x → x < p → g0 (28 * x) = r_G N1 (28 * x)) → y_RE b n N g0 p Q X G D f k0 i0 (E_V 186 127 [192, (p : Int), y2, (gr : Int), y4, d, 1, 1] N1) := by
      intro N1 y2 y4 BN fN IN kN
      rcases hd with hd0 | hd1
      · subst hd0
        rw [y_l127a, y_l28y]
        exact y_r166 hA hz hp hH (by omega) BN fN z5 (z6.trans h3) (z8.trans h5) (by rw [z11, h8]; omega) (by rw [z9, h6]) IN (Or.inl rfl) hG1 hgp1 (by omega) kN (by omega) (z10.trans h7)
      · subst hd1
        obtain ⟨t1, t2'⟩ := y_takes (c := 32) BN (by decide)
        by_cases c : y_s b n k' = 32
        · obtain ⟨k5, l5, e5, tt5, B5⟩ := t1 c
          obtain ⟨a1, a2, a3, a4, a5, a6, a7, a8⟩ := y_spc z4 z5 l5 e5 (by omega) (by omega)
          rw [if_neg (by omega)] at a6
          rw [y_l127b k5 (Or.inr rfl)]
          exact ih (k' + 1) _ y2 y4 1 (i + 1) (by omega) (by omega) B5 (y_fr_t fN tt5) a2 (by omega) (by omega) (fun e => absurd e (by decide)) (by rw [a8, z11, h8]; omega) (by omega) (by omega) (by
            unfold y_IR at IN ⊢
            rw [y_G_t tt5]
            exact IN) hG1 (Or.inr ⟨by omega, hgp1⟩) (by omega) (by omega) (fun x x0 x1 => by rw [y_G_t tt5]; exact kN x x0 x1)
        · have k5 := t2' c
          rw [y_sb l'] at c
          have c93 : b k' = 93 := by omega
          obtain ⟨a1, a2, a3, a4, a5, a6, a7, a8⟩ := y_cls z4 z5 l' c93 (by omega)
          obtain ⟨o1, o2⟩ := y_on BN l'
          rw [y_l127b k5 (Or.inl rfl), y_l28z BN.2.1 (y_k1 BN)]
          exact y_r166 hA hz hp hH (by omega) o2 (y_fr_t fN o1) ⟨by rw [a2]; decide, by rw [a2]; decide, by rw [a2]; exact fun e => absurd e.1 (by decide)⟩ (by omega) a5 (by rw [a8, z11, h8]; omega) (by omega) (by
            unfold y_IR at IN ⊢
            rw [y_G_t o1]
            exact IN) (Or.inr rfl) hG1 hgp1 (by omega) (fun x x0 x1 => by rw [y_G_t o1]; exact kN x x0 x1) (by omega) (by omega)
    have hkd2 : ∀ x : Int, 0 ≤ x → x < p → g0 (28 * x) = r_G M2 (28 * x) := fun x x0 x1 => by rw [eG2]; exact hkd x x0 x1
    obtain ⟨i1, i2⟩ := hI
    rw [← eG2] at i2
    rcases i2 with ⟨e1, e2, e3, e4, e5, e6, e7⟩ | ⟨e1, j, j1, j2⟩
    · subst e1
      subst e2
      have no : (¬ y_J g0 p Q X f i ∨ 8 ≤ i) → y_RE b n N g0 p Q X G D f k0 i0 (E_V 186 127 [192, (p : Int), (i : Int), (gr : Int), 0, d, 1, 1] M2) := fun hbad => tail M2 i 0 B2 f2 ⟨i1, Or.inr ⟨rfl, i, by omega, hbad⟩⟩ hkd2
      by_cases c1 : 8 > i
      · have mc := hmay (q : Int) M2 v99.1
        have Jiff : ((q : Int) < p ∧ Q (r_G M2 (28 * (q : Int))) ∧ r_G M2 (28 * (q : Int) + 1) = 0) ↔ y_J g0 p Q X f i := by
          unfold y_J
          rw [hx]
          clear mc no tail ih
          refine ⟨fun ⟨a, b', c⟩ => ?_, fun ⟨⟨_, a⟩, b', c, d⟩ => ?_⟩
          · rw [← hkd2 q (by omega) a] at b'
            have nj : ∀ j, j < i → X (f + j) ≠ (q : Int) := fun j hj e => by
              have := (e5.1 j hj).2
              rw [e, c] at this
              omega
            refine ⟨⟨by omega, a⟩, b', ?_, nj⟩
            rw [← e5.2 (28 * (q : Int) + 1) (by omega) (Or.inl (by omega)) (fun j hj e => nj j hj (by omega))]
            exact c
          · rw [hkd2 q (by omega) a] at b'
            refine ⟨a, b', ?_⟩
            rw [e5.2 (28 * (q : Int) + 1) (by omega) (Or.inl (by omega)) (fun j hj e => d j hj (by omega))]
            exact c
        by_cases c2 : y_J g0 p Q X f i
        · have k5 := mc.1 (Jiff.mpr c2)
          have qp : q < p := by
            have := c2.1.2
            rw [hx] at this
            omega
          have b0 : 0 ≤ (28 * (p : Int) + 3 + (i : Int)) ∧ (28 * (p : Int) + 3 + (i : Int)) < 1330 := by omega
          have b2 : 0 ≤ (28 * (p : Int) + 11 + (i : Int)) ∧ (28 * (p : Int) + 11 + (i : Int)) < 1330 := by omega
          have b1 : 0 ≤ (28 * (q : Int) + 1) ∧ (28 * (q : Int) + 1) < 1330 := by omega
          have s1 := fun v => r_stw (i := 28 * (p : Int) + 3 + (i : Int)) (v := v) (M := M2) b0.1 b0.2
          have s3 := fun v M => r_stw (i := 28 * (p : Int) + 11 + (i : Int)) (v := v) (M := M) b2.1 b2.2
          have s2 := fun v M => r_stw (i := 28 * (q : Int) + 1) (v := v) (M := M) b1.1 b1.2
          have hk1 : 28 * (p : Int) + 3 + (i : Int) ≥ 1 := by omega
          have hk2 : 28 * (q : Int) + 1 ≥ 1 := by omega
          have hk3 : 28 * (p : Int) + 11 + (i : Int) ≥ 1 := by omega
          have n13 : (28 * (p : Int) + 3 + (i : Int)) ≠ 28 * (q : Int) + 1 := by omega
          have n23 : (28 * (p : Int) + 11 + (i : Int)) ≠ 28 * (q : Int) + 1 := by omega
          have n12 : (28 * (p : Int) + 3 + (i : Int)) ≠ 28 * (p : Int) + 11 + (i : Int) := by omega
          obtain ⟨N1, hN1⟩ : ∃ N1, e_up (e_up (e_up M2 193 (28 * (p : Int) + 3 + (i : Int)).toNat (q : Int)) 193 (28 * (p : Int) + 11 + (i : Int)).toNat (gr : Int)) 193 (28 * (q : Int) + 1).toNat ((p : Int) + 1) = N1 := ⟨_, rfl⟩
          have G1 : r_G N1 (28 * (p : Int) + 3 + (i : Int)) = q := by rw [← hN1]; exact (r_G_n hk2 n13).trans ((r_G_n hk3 n12).trans r_G_s)
          have G4 : r_G N1 (28 * (p : Int) + 11 + (i : Int)) = gr := by rw [← hN1]; exact (r_G_n hk2 n23).trans r_G_s
          have G2 : r_G N1 (28 * (q : Int) + 1) = (p : Int) + 1 := by rw [← hN1]; exact r_G_s
          have G3 : ∀ x, x ≠ 28 * (p : Int) + 3 + (i : Int) → x ≠ 28 * (p : Int) + 11 + (i : Int) → x ≠ 28 * (q : Int) + 1 → r_G N1 x = r_G M2 x := fun x x1 x2 x3 => by rw [← hN1]; exact (r_G_n hk2 x3).trans ((r_G_n hk3 x2).trans (r_G_n hk1 x1))
          have BN : y_B b n k' N1 := by rw [← hN1]; exact y_Bw (y_Bw (y_Bw B2 ⟨by omega, by omega⟩) ⟨by omega, by omega⟩) ⟨by omega, by omega⟩
          have fN : y_fr N N1 := by rw [← hN1]; exact y_frw (y_frw (y_frw f2))
          have I1 : y_IR g0 p Q X G D f (i + 1) gr N1 ((i : Int) + 1) 1 := by
            clear s1 s2 s3 mc k5 no tail ih g2 hN1
            refine ⟨by omega, Or.inl ⟨rfl, by omega, by omega, fun j hj => ?_, y_mr_up e5 hx qp (fun j hj => c2.2.2.2 j hj) (fun j hj => (e4 j hj).1) (by omega) G1 G2 (fun x x0 x1 x2 x3 => G3 x x1 (by omega) x2) (fun x x0 => G3 x (by omega) (by omega) (by omega)), fun j hj => ?_, fun x x0 x1 hs => ?_⟩⟩
            · by_cases e : j = i
              · rw [e]; exact c2
              · exact e4 j (by omega)
            · by_cases e : j = i
              · subst e
                exact ⟨G4.trans hgi'.symm, fun h => by omega⟩
              · obtain ⟨u1, u2⟩ := e6 j (by omega)
                have hg := hG j (by omega)
                refine ⟨(G3 _ (by omega) (by omega) (by omega)).trans u1, fun h => ?_⟩
                exact (G3 _ (by omega) (by omega) (by omega)).trans (u2 h)
            · rw [G3 _ (fun e => hs (Or.inl ⟨by omega, by omega⟩)) (fun e => hs (Or.inr (Or.inl ⟨by omega, by omega⟩))) (by omega)]
              exact e7 x x0 x1 (fun e => hs (by omega))
          have kN : ∀ x : Int, 0 ≤ x → x < p → g0 (28 * x) = r_G N1 (28 * x) := fun x x0 x1 => by
            rw [G3 _ (by omega) (by omega) (by omega)]
            exact hkd2 x x0 x1
          have c1i : (i : Int) < 8 := by omega
          obtain ⟨v1, v2, v3, v4, v5, -, -, v8, v9, v10, v11⟩ := y_ws (P := (p : Int)) (I := (i : Int)) (Qv := (q : Int)) (by omega) (by omega) v99
          rw [y_l28a g2 hq c1i k5 v1 v2 v3 v4 v5 v8 v9 v10 v11 s1 s3 s2 hN1]
          exact tail N1 ((i : Int) + 1) 1 BN fN I1 kN
        · rw [y_l28d g2 hq (by omega) (mc.2 (fun h => c2 (Jiff.mp h)))]
          exact no (Or.inl c2)
      · rw [y_l28c g2 (by omega)]
        exact no (Or.inr (by omega))
    · subst e1
      rw [y_l28b g2]
      exact tail M2 x2 0 B2 f2 ⟨i1, Or.inr ⟨rfl, j, by omega, j2⟩⟩ hkd2
end YR2
