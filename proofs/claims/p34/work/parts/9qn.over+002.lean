theorem y_n192 {M : EM} {a k : Nat} {v : Int} : (e_up M 193 a v) 192 k = M 192 k := c_up_n (fun q => absurd q.1 (by decide))
/-- where the way through a STATEMENT over others ends: at its ; -/
def y_OE (b : Nat → Int) (n : Nat) (N : EM) (g0 : Int → Int) (p most : Nat) (Q : Int → Prop) (X : Nat → Int) (f k i : Nat) (o : EO) : Prop := ∃ r M' k' l, o = some (r, M') ∧ y_B b n k' M' ∧ y_fr N M' ∧ k < k' ∧ k' < n ∧ b k' = 59 ∧ y_rd b n k' ∧ w_T b k' 5 = 0 ∧ w_T b k' 3 = w_T b (k + 1) 3 ∧ w_T b k' 7 = w_T b (k + 1) 7 ∧ i < l ∧ w_T b k' 8 = ((f + l : Nat) : Int) ∧ ((r = 1 ∧ l ≤ most ∧ (∀ j, j < l → y_J g0 p Q X f j) ∧ y_mr g0 (r_G M') p X f l ∧ y_bl g0 (r_G M') p (fun x => x = 2 ∨ (3 ≤ x ∧ x < 3 + l)) ∧ r_G M' (28 * (p : Int) + 2) = l) ∨ (r = 0 ∧ ∃ j, j < l ∧ (¬ y_J g0 p Q X f j ∨ most ≤ j)))
/-- what stands of PART p when i numbers were read: x4 have come, x5 tells whether all is well -/
def y_IV (g0 : Int → Int) (p most : Nat) (Q : Int → Prop) (X : Nat → Int) (f i : Nat) (M : EM) (x4 x5 : Int) : Prop := (0 ≤ x4 ∧ x4 ≤ 8) ∧ ((x5 = 1 ∧ x4 = i ∧ i ≤ most ∧ (∀ j, j < i → y_J g0 p Q X f j) ∧ y_mr g0 (r_G M) p X f i ∧ y_bl g0 (r_G M) p (fun x => 3 ≤ x ∧ x < 3 + i)) ∨ (x5 = 0 ∧ ∃ j, j < i ∧ (¬ y_J g0 p Q X f j ∨ most ≤ j)))
theorem y_IVG {g0 : Int → Int} {p most : Nat} {Q : Int → Prop} {X : Nat → Int} {f i : Nat} {M M' : EM} {x4 x5 : Int} (e : r_G M' = r_G M) (h : y_IV g0 p most Q X f i M x4 x5) : y_IV g0 p most Q X f i M' x4 x5 := by
  unfold y_IV at h ⊢
  rw [e]
  exact h
theorem y_IV0 {g0 : Int → Int} {p most : Nat} {Q : Int → Prop} {X : Nat → Int} {f i : Nat} {M : EM} {x4 x5 : Int} (h : y_IV g0 p most Q X f i M x4 x5) (h5 : x5 = 0) : y_IV g0 p most Q X f (i + 1) M x4 0 := by
  obtain ⟨h1, h2⟩ := h
  rcases h2 with h2 | ⟨h2, j, j1, j2⟩
  · exact absurd h5 (by omega)
  · exact ⟨h1, Or.inr ⟨rfl, j, by omega, j2⟩⟩
/-- one more comes -/
theorem y_mr_up {g0 g g' : Int → Int} {p i o : Nat} {X : Nat → Int} {f : Nat} (h : y_mr g0 g p X f i) (ho : X (f + i) = o) (hop : o < p) (hne : ∀ j, j < i → X (f + j) ≠ X (f + i)) (hX : ∀ j, j < i → 0 ≤ X (f + j) ∧ X (f + j) < p) (hi : i < 8) (e1 : g' (28 * (p : Int) + 3 + i) = o) (e2 : g' (28 * (o : Int) + 1) = (p : Int) + 1) (e3 : ∀ x, 0 ≤ x → x ≠ 28 * (p : Int) + 3 + i → x ≠ 28 * (o : Int) + 1 → (x < 28 * (p : Int) + 11) → g' x = g x) (e4 : ∀ x, 28 * (p : Int) + 28 ≤ x → g' x = g x) : y_mr g0 g' p X f (i + 1) := by
  obtain ⟨a1, a2⟩ := h
  refine ⟨fun j hj => ?_, fun x x0 hx hn => ?_⟩
  · by_cases c : j = i
    · subst c
      rw [ho]
      exact ⟨e1, e2⟩
    · obtain ⟨b1, b2⟩ := a1 j (by omega)
      have n1 := hne j (by omega)
      have n2 := hX j (by omega)
      rw [ho] at n1
      refine ⟨?_, ?_⟩
      · rw [e3 _ (by omega) (by omega) (by omega) (by omega)]
        exact b1
      · rw [e3 _ (by omega) (by omega) (by omega) (by omega)]
        exact b2
  · have n1 := hn i (by omega)
    rw [ho] at n1
    rcases hx with hx | hx
    · rw [e3 x x0 (by omega) n1 (by omega)]
      exact a2 x x0 (Or.inl hx) (fun j hj => hn j (by omega))
    · rw [e4 x hx]
      exact a2 x x0 (Or.inr hx) (fun j hj => hn j (by omega))
theorem y_leaf {P W ks I Qv ia ib x6 pos k1 : Int} {na nb : Nat} {M M1 M2 N1 : EM} {o : EO} (h15 : M 192 15 = pos) (w1 : e_w (pos + 1) = k1) (hM1' : e_up M 192 15 k1 = M1) (g2 : E_C 179 [192] M1 = some (1, M2)) (hq : M2 192 18 = Qv) (c1i : I < W) (k5 : E_C 185 [192, Qv, P, ks] M2 = some (1, M2)) (v1 : e_w (28 * P) = 28 * P) (v2 : e_w (28 * P + 3) = 28 * P + 3) (v3 : e_w (28 * P + 3 + I) = ia) (v4 : e_w (28 * Qv) = 28 * Qv) (v5 : e_w (28 * Qv + 1) = ib) (v6 : e_w (I + 1) = I + 1) (v7 : e_w (P + 1) = P + 1) (s1 : ∀ v, e_st 100 [193, ia, v] M2 = some (e_up M2 193 na v)) (s2 : ∀ v M, e_st 100 [193, ib, v] M = some (e_up M 193 nb v)) (hN1' : e_up (e_up M2 193 na Qv) 193 nb (P + 1) = N1) (u1 : E_V 187 99 [192, P, W, ks, I + 1, 1, 1] N1 = o) : E_V 187 6 [192, P, W, ks, I, 1, x6] M = o := by
  have yn : ∀ (M : EM) (a k : Nat) (v : Int), (e_up M 193 a v) 192 k = M 192 k := fun M a k v => c_up_n (fun q => absurd q.1 (by decide))
  rw [E_V_eq]
  show e_tv E_C (E_V 187) e_t187_6 [192, P, W, ks, I, 1, x6] M = _
  unfold e_t187_6
  simp [e_tv, e_ev, e_sv, e_b1, e_b2, x_o1, x_o2, r_O0, r_F15, r_F18, r_P15, yn, h15, w1, hM1', g2, hq, c1i, k5, v1, v2, v3, v4, v5, v6, v7, s1, s2, hN1', u1]
theorem y_over {b : Nat → Int} {n : Nat} (hA : w_A b n) (hz : w_T b n 2 = 0) {p most : Nat} (hp : p < 40) (hmost : most ≤ 6) {ks : Int} {Q : Int → Prop} (hmay : ∀ (q : Int) (M : EM), 0 ≤ q → (q < p ∧ Q (r_G M (28 * q)) ∧ r_G M (28 * q + 1) = 0 → E_C 185 [192, q, (p : Int), ks] M = some (1, M)) ∧ (¬ (q < p ∧ Q (r_G M (28 * q)) ∧ r_G M (28 * q + 1) = 0) → E_C 185 [192, q, (p : Int), ks] M = some (0, M))) {N : EM} {X : Nat → Int} (hX : y_X b n X) {g0 : Int → Int} {f : Nat} : ∀ (m k : Nat) (M : EM) (x4 x5 x6 : Int) (i : Nat), n - k ≤ m → y_B b n k M → k < n → y_fr N M → w_T b (k + 1) 2 = 1 → (w_T b (k + 1) 3 = 102 ∨ w_T b (k + 1) 3 = 98) → w_T b (k + 1) 5 = 0 → w_T b (k + 1) 8 = ((f + i : Nat) : Int) → y_IV g0 p most Q X f i M x4 x5 → (∀ x : Int, 0 ≤ x → x < p → g0 (28 * x) = r_G M (28 * x)) → y_OE b n N g0 p most Q X f k i (E_V 187 6 [192, (p : Int), (most : Int), ks, x4, x5, x6] M) := by
  intro m
  induction m with
  | zero =>
    intro k M x4 x5 x6 i hm hB hk
    omega
  | succ m ih =>
    intro k M x4 x5 x6 i hm hB hk hf h2 h3 h5 h8 hI hkd
    obtain ⟨o1, o2⟩ := y_on hB hk
    have A1 := w_Al hA (show k + 1 ≤ n by omega)
    have dg := y_dig hA hz o2.2.2.1 h2 (by omega)
    obtain ⟨k', M2, g2, t2, B2, ⟨z1, z2, z3, z4, z5, z6, z7, z8, z9, z10, z11⟩, num⟩ := (y_num o2 A1 h2).2 dg
    have t12 := r_tt_tr o1 t2
    have eG2 := y_G_t t12
    have f2 := y_fr_t hf t12
    have hx := hX (k + 1) dg.1 z3
    rw [h8, Int.toNat_natCast, ← num] at hx
    have v99 := y_v99 (n := n) z3
    rw [← num] at v99
    obtain ⟨q, hq⟩ : ∃ q : Nat, M2 192 18 = (q : Int) := ⟨(M2 192 18).toNat, by omega⟩
    rw [hq] at hx v99
    obtain ⟨l', sg⟩ := y_sig hA hz z2 z5
    have h15 := hB.2.1
    -- behind the number
    have tail : ∀ (N1 : EM) (y4 y5 : Int), y_B b n k' N1 → y_fr N N1 → y_IV g0 p most Q X f (i + 1) N1 y4 y5 → (∀ x : Int, 0 ≤ x → x < p → g0 (28 * x) = r_G N1 (28 * x)) → y_OE b n N g0 p most Q X f k i (E_V 187 99 [192, (p : Int), (most : Int), ks, y4, y5, 1] N1) := by
      intro N1 y4 y5 BN fN IN kN
      have ksg := r_sign (y_ty BN)
      rw [y_sg BN, y_sb l'] at ksg
      by_cases c : b k' = 32
      · obtain ⟨a1, a2, a3, a4, a5, a6, a7, a8⟩ := y_spc z4 z5 l' c (by omega) (by omega)
        obtain ⟨r, M', k'', l, u1, u2, u3, u4, u5, u6, u7, u8, u9, u10, u11, u12, u13⟩ := ih k' N1 y4 y5 1 (i + 1) (by omega) BN l' fN a2 (by omega) (by omega) (by rw [a8, z11, h8]; omega) IN kN
        refine ⟨r, M', k'', l, ?_, u2, u3, by omega, u5, u6, u7, u8, by omega, by omega, by omega, u12, u13⟩
        rw [c] at ksg
        rw [E_V_eq]
        show e_tv E_C (E_V 187) e_t187_99 [192, (p : Int), (most : Int), ks, y4, y5, 1] N1 = _
        unfold e_t187_99
        simp [e_tv, e_ev, e_sv, e_b1, e_b2, x_o1, x_o2, ksg, u1]
      · have c59 : b k' = 59 := by omega
        obtain ⟨i1, i2⟩ := IN
        have st := r_stw (i := 28 * (p : Int) + 2) (v := y4) (M := N1) (by omega) (by omega)
        have hkz : 28 * (p : Int) + 2 ≥ 1 := by omega
        refine ⟨y5, e_up N1 193 (28 * (p : Int) + 2).toNat y4, k', i + 1, ?_, y_Bw BN ⟨by omega, by omega⟩, y_frw fN, by omega, l', c59, z5, by omega, by omega, by omega, by omega, by omega, ?_⟩
        · rw [c59] at ksg
          have w1 : e_w (28 * (p : Int)) = 28 * (p : Int) := by
            clear ksg st
            exact a_w_id (by omega) (by omega)
          have w2 : e_w (28 * (p : Int) + 2) = 28 * (p : Int) + 2 := by
            clear ksg st w1
            exact a_w_id (by omega) (by omega)
          rw [E_V_eq]
          show e_tv E_C (E_V 187) e_t187_99 [192, (p : Int), (most : Int), ks, y4, y5, 1] N1 = _
          unfold e_t187_99
          simp [e_tv, e_ev, e_sv, e_b1, e_b2, x_o1, x_o2, r_O0, ksg, w1, w2, st]
        · rcases i2 with ⟨e1, e2, e3, e4, e5, e6⟩ | ⟨e1, e2⟩
          · refine Or.inl ⟨e1, e3, e4, ⟨fun j hj => ?_, fun x x0 hx hn => ?_⟩, fun x x0 x1 hs => ?_, ?_⟩
            · obtain ⟨v1, v2⟩ := e5.1 j hj
              have hj2 := (e4 j hj).1.2
              refine ⟨(r_G_n hkz (by omega)).trans v1, ?_⟩
              have hne : 28 * X (f + j) + 1 ≠ 28 * (p : Int) + 2 := by omega
              exact (r_G_n hkz hne).trans v2
            · exact (r_G_n hkz (by omega)).trans (e5.2 x x0 hx hn)
            · exact (r_G_n hkz (fun e => hs (Or.inl (by omega)))).trans (e6 x x0 x1 (fun e => hs (Or.inr e)))
            · rw [r_G_s, e2]
          · exact Or.inr ⟨e1, e2⟩
    have hkd2 : ∀ x : Int, 0 ≤ x → x < p → g0 (28 * x) = r_G M2 (28 * x) := fun x x0 x1 => by rw [eG2]; exact hkd x x0 x1
    have hI2 := y_IVG eG2 hI
    have w1 : e_w ((k : Int) + 1) = (k : Int) + 1 := by
      have := hB.2.2.2.2.1
      clear tail ih g2 num hx hI hI2 hkd hkd2
      exact a_w_id (by omega) (by omega)
    have hM1 : ∃ M1, M1 = e_up M 192 15 ((k : Int) + 1) := ⟨_, rfl⟩
    obtain ⟨M1, hM1⟩ := hM1
    rw [← hM1] at g2
    have hM1' := hM1.symm
    by_cases c0 : x5 = 0
    · obtain ⟨r, M', k'', l, u1, u2⟩ := tail M2 x4 0 B2 f2 (y_IV0 hI2 c0) hkd2
      refine ⟨r, M', k'', l, ?_, u2⟩
      subst c0
      clear tail ih
      rw [E_V_eq]
      show e_tv E_C (E_V 187) e_t187_6 [192, (p : Int), (most : Int), ks, x4, 0, x6] M = _
      unfold e_t187_6
      simp [e_tv, e_ev, e_sv, e_b1, e_b2, x_o1, x_o2, r_O0, r_F15, r_F18, r_P15, h15, w1, hM1', g2, u1]
    · obtain ⟨i1, i2⟩ := hI2
      have i2 := i2.resolve_right (fun e => c0 e.1)
      obtain ⟨e1, e2, e3, e4, e5, e6⟩ := i2
      subst e1
      subst e2
      -- no: it may not come
      have no : (¬ y_J g0 p Q X f i ∨ most ≤ i) → y_OE b n N g0 p most Q X f k i (E_V 187 99 [192, (p : Int), (most : Int), ks, (i : Int), 0, 1] M2) := fun hbad => tail M2 i 0 B2 f2 ⟨i1, Or.inr ⟨rfl, i, by clear w1; omega, hbad⟩⟩ hkd2
      by_cases c1 : most > i
      · have c1' : i < most := by clear w1; omega
        have mc := hmay (q : Int) M2 v99.1
        have Jiff : ((q : Int) < p ∧ Q (r_G M2 (28 * (q : Int))) ∧ r_G M2 (28 * (q : Int) + 1) = 0) ↔ y_J g0 p Q X f i := by
          unfold y_J
          rw [hx]
          clear w1 mc no tail ih
          refine ⟨fun ⟨a, b', c⟩ => ?_, fun ⟨⟨_, a⟩, b', c, d⟩ => ?_⟩
          · rw [← hkd2 q (by omega) a] at b'
            have nj : ∀ j, j < i → X (f + j) ≠ (q : Int) := fun j hj e => by
              have := (e5.1 j hj).2
              rw [e, c] at this
              omega
            refine ⟨⟨by omega, a⟩, b', ?_, nj⟩
            rw [← e5.2 (28 * (q : Int) + 1) (by omega) (Or.inl (by omega)) (fun j hj e => nj j hj (by omega))]
            exact c
          · rw [hkd2 q (by omega) a] at b'
            refine ⟨a, b', ?_⟩
            rw [e5.2 (28 * (q : Int) + 1) (by omega) (Or.inl (by omega)) (fun j hj e => d j hj (by omega))]
            exact c
        by_cases c2 : y_J g0 p Q X f i
        · have k5 := mc.1 (Jiff.mpr c2)
          have qp : q < p := by
            have := c2.1.2
            rw [hx] at this
            clear w1
            omega
          have b0 : 0 ≤ (28 * (p : Int) + 3 + (i : Int)) ∧ (28 * (p : Int) + 3 + (i : Int)) < 1330 := by clear w1; omega
          have b1 : 0 ≤ (28 * (q : Int) + 1) ∧ (28 * (q : Int) + 1) < 1330 := by clear w1; omega
          have s1 := fun v => r_stw (i := 28 * (p : Int) + 3 + (i : Int)) (v := v) (M := M2) b0.1 b0.2
          have s2 := fun v M => r_stw (i := 28 * (q : Int) + 1) (v := v) (M := M) b1.1 b1.2
          have hk1 : 28 * (p : Int) + 3 + (i : Int) ≥ 1 := by clear w1; omega
          have hk2 : 28 * (q : Int) + 1 ≥ 1 := by clear w1; omega
          have hqp : (28 * (p : Int) + 3 + (i : Int)) ≠ 28 * (q : Int) + 1 := by clear w1; omega
          have G1 : r_G (e_up (e_up M2 193 (28 * (p : Int) + 3 + (i : Int)).toNat (q : Int)) 193 (28 * (q : Int) + 1).toNat ((p : Int) + 1)) (28 * (p : Int) + 3 + (i : Int)) = q := (r_G_n hk2 hqp).trans r_G_s
          have G2 : r_G (e_up (e_up M2 193 (28 * (p : Int) + 3 + (i : Int)).toNat (q : Int)) 193 (28 * (q : Int) + 1).toNat ((p : Int) + 1)) (28 * (q : Int) + 1) = (p : Int) + 1 := r_G_s
          have G3 : ∀ x, x ≠ 28 * (p : Int) + 3 + (i : Int) → x ≠ 28 * (q : Int) + 1 → r_G (e_up (e_up M2 193 (28 * (p : Int) + 3 + (i : Int)).toNat (q : Int)) 193 (28 * (q : Int) + 1).toNat ((p : Int) + 1)) x = r_G M2 x := fun x x1 x2 => (r_G_n hk2 x2).trans (r_G_n hk1 x1)
          have BN : y_B b n k' (e_up (e_up M2 193 (28 * (p : Int) + 3 + (i : Int)).toNat (q : Int)) 193 (28 * (q : Int) + 1).toNat ((p : Int) + 1)) := y_Bw (y_Bw B2 ⟨by clear w1; omega, by clear w1; omega⟩) ⟨by clear w1; omega, by clear w1; omega⟩
          have fN : y_fr N (e_up (e_up M2 193 (28 * (p : Int) + 3 + (i : Int)).toNat (q : Int)) 193 (28 * (q : Int) + 1).toNat ((p : Int) + 1)) := y_frw (y_frw f2)
          obtain ⟨N1, hN1⟩ : ∃ N1, N1 = e_up (e_up M2 193 (28 * (p : Int) + 3 + (i : Int)).toNat (q : Int)) 193 (28 * (q : Int) + 1).toNat ((p : Int) + 1) := ⟨_, rfl⟩
          rw [← hN1] at G1 G2 G3 BN fN
          have hN1' := hN1.symm
          have XX : ∀ j, j < i → 0 ≤ X (f + j) ∧ X (f + j) < p := fun j hj => by
            exact (e4 j hj).1
          have I1 : y_IV g0 p most Q X f (i + 1) N1 ((i : Int) + 1) 1 := by
            clear s1 s2 mc k5 no tail ih w1 g2
            refine ⟨by omega, Or.inl ⟨rfl, by omega, by omega, fun j hj => ?_, y_mr_up e5 hx qp (fun j hj => c2.2.2.2 j hj) XX (by omega) G1 G2 (fun x x0 x1 x2 x3 => G3 x x1 x2) (fun x x0 => G3 x (by omega) (by omega)), fun x x0 x1 hs => ?_⟩⟩
            · by_cases e : j = i
              · rw [e]; exact c2
              · exact e4 j (by omega)
            · rw [G3 _ (fun e => hs ⟨by omega, by omega⟩) (by omega)]
              exact e6 x x0 x1 (fun e => hs ⟨e.1, by omega⟩)
          have kN : ∀ x : Int, 0 ≤ x → x < p → g0 (28 * x) = r_G N1 (28 * x) := fun x x0 x1 => by
            rw [G3 _ (by clear w1; omega) (by clear w1; omega)]
            exact hkd2 x x0 x1
          obtain ⟨r, M', k'', l, u1, u2⟩ := tail N1 ((i : Int) + 1) 1 BN fN I1 kN
          have wp : e_w (28 * (p : Int)) = 28 * (p : Int) ∧ e_w (28 * (p : Int) + 3) = 28 * (p : Int) + 3 ∧ e_w (28 * (p : Int) + 3 + (i : Int)) = 28 * (p : Int) + 3 + (i : Int) ∧ e_w (28 * (q : Int)) = 28 * (q : Int) ∧ e_w (28 * (q : Int) + 1) = 28 * (q : Int) + 1 ∧ e_w ((i : Int) + 1) = (i : Int) + 1 ∧ e_w ((p : Int) + 1) = (p : Int) + 1 := by
            clear s1 s2 mc k5 no tail ih w1 g2 u1 u2 I1 kN G1 G2 G3 hN1 hN1' XX Jiff hI e5 e6 hkd hkd2
            refine ⟨?_, ?_, ?_, ?_, ?_, ?_, ?_⟩ <;> exact a_w_id (by omega) (by omega)
          obtain ⟨v1, v2, v3, v4, v5, v6, v7⟩ := wp
          exact ⟨r, M', k'', l, y_leaf h15 w1 hM1' g2 hq (Int.ofNat_lt.mpr c1') k5 v1 v2 v3 v4 v5 v6 v7 s1 s2 hN1' u1, u2⟩
        · have k5 := mc.2 (fun h => c2 (Jiff.mp h))
          obtain ⟨r, M', k'', l, u1, u2⟩ := no (Or.inl c2)
          refine ⟨r, M', k'', l, ?_, u2⟩
          clear tail ih no
          rw [E_V_eq]
          show e_tv E_C (E_V 187) e_t187_6 [192, (p : Int), (most : Int), ks, (i : Int), 1, x6] M = _
          unfold e_t187_6
          simp [e_tv, e_ev, e_sv, e_b1, e_b2, x_o1, x_o2, r_O0, r_F15, r_F18, r_P15, h15, w1, hM1', g2, hq, c1', k5, u1]
      · have c1' : ¬ (i < most) := by clear w1; omega
        obtain ⟨r, M', k'', l, u1, u2⟩ := no (Or.inr (by clear w1; omega))
        refine ⟨r, M', k'', l, ?_, u2⟩
        clear tail ih no
        rw [E_V_eq]
        show e_tv E_C (E_V 187) e_t187_6 [192, (p : Int), (most : Int), ks, (i : Int), 1, x6] M = _
        unfold e_t187_6
        simp [e_tv, e_ev, e_sv, e_b1, e_b2, x_o1, x_o2, r_O0, r_F15, r_F18, r_P15, h15, w1, hM1', g2, hq, c1', u1]

